/-! READ: the call -/



/-- the input emptied; an error position kept -/
def xs0 (X : XS) : XS := (X.1, X.2.1, 0, X.2.2.2.1, X.2.2.2.2)
def xsE (X : XS) (k : Nat) : XS := (X.1, X.2.1, X.2.2.1, X.2.2.2.1, X.2.2.2.2.1, some k)
/-- the reason behind an entry that came to r -/
def xsK (X : XS) (r : Int32) : XS := if r = 0 ∨ r = -1 then X else xsR X r.toNatClampNeg
def inU (a : A3) : Prop := a = (20, 0, 0) ∨ (a.1 = 21 ∧ a.2.1 ≠ 16 ∧ a.2.1 ≠ 19 ∧ a.2.1 ≠ 20)
section R8
variable {L : Nat} {xs : Nat → Int32} {h h' h1 g0 g g' : Hp} {P P' : PL} {H H' : HS} {X X' : XS} {t t' : IS} {d i e l : Nat} {s : Nat → Nat} {x x' : Nat → Int32} {R : Int32}
theorem inU_M : ∀ a, inU a → inM a := fun a z => by
  rcases z with z | z
  · rw [z]; exact Or.inl rfl
  · exact Or.inr z.1
theorem inTx_U : ∀ a, inTx a → inU a := fun a z => by
  rcases z with z | z | z <;> rw [z]
  · exact Or.inl rfl
  · exact Or.inr ⟨rfl, by decide, by decide, by decide⟩
  · exact Or.inr ⟨rfl, by decide, by decide, by decide⟩
theorem inQ_U : ∀ a, inQ a → inU a := fun a z => by
  rcases z with z | ⟨z1, z2, z3⟩
  · exact Or.inl z
  · exact Or.inr ⟨z1, by omega, by omega, by omega⟩
theorem inG_U : ∀ a, inG 21 a → inU a := fun a z => by
  rcases z with z | z <;> rw [z]
  · exact Or.inr ⟨rfl, by decide, by decide, by decide⟩
  · exact Or.inl rfl
theorem inR_U : ∀ a, inR 21 a → inU a := fun a z => by
  rcases z with z | ⟨f, hf, z⟩ | z <;> rw [z]
  · exact Or.inl rfl
  · exact Or.inr ⟨rfl, (show f ≠ 16 by omega), (show f ≠ 19 by omega), (show f ≠ 20 by omega)⟩
  · exact Or.inr ⟨rfl, by decide, by decide, by decide⟩
/-! what both share: a call whose class's part changes the form -/
theorem r_ok {w m : Nat} {A B : LS3} {v : Int32} (hL1 : Lay L xs h1) (c1 : CI h1 P' H' X') (m1 : MI h1 P H X) (wi' : WI P' H' X') (k1 : cnt h1 = cnt h ∧ cu h1 = cu h ∧ su h1 = su h) (e1 : Ev d w 0 A [] h = some (.inl (some (vI 0)), sL h1 (30, 0, 0) 0 v.toInt64)) (e2 : ∀ h', Lay L xs h' → MI h' P H X → ∃ h'', Ev d m 0 B [] h' = some (.inl (some (vI v)), h'') ∧ MI h'' P' H' X' ∧ Chg inM h' h'' ∧ gI h'' (20, 0, 0) 0 = 0) : Agw L xs d w m A B h := by
  obtain ⟨h'', e3, m2, k2, t2⟩ := e2 (sL h1 (30, 0, 0) 0 v.toInt64) (Lay_sL hL1) (MI_out m1)
  refine ⟨0, v, _, h'', e1, e3, t2, fun _ => ?_, ⟨Lay_M (Lay_sL hL1) k2, P', H', X', CI_ch (CI_out c1) k2 (fun a ha z => by rcases z with z | z <;> omega), m2, wi'⟩, ?_, ?_, ?_⟩
  · rw [ch_L k2 (fun z => by rcases z with z | z <;> simp at z), sL_Lx, if_pos ⟨rfl, rfl⟩]
  · rw [k2.2.2.2.1]; exact k1.1
  · rw [k2.2.2.2.2.1]; exact Nat.le_trans (Nat.le_of_eq k1.2.1) (Nat.le_succ _)
  · rw [k2.2.2.2.2.2.1]; exact Nat.le_trans (Nat.le_of_eq k1.2.2) (Nat.le_add_right _ _)
theorem r_ex {w m : Nat} {A B : LS3} {k b : Int32} (hL1 : Lay L xs h1) (c1 : CI h1 P' H' X') (m1 : MI h1 P H X) (wi' : WI P' H' X') (k1 : cnt h1 = cnt h ∧ cu h1 = cu h ∧ su h1 = su h) (hk : k ≠ 0) (e1 : Ev d w 0 A [] h = some (.inl (some (vI k)), gb h1)) (e2 : ∀ h', Lay L xs h' → MI h' P H X → ∃ h'', Ev d m 0 B [] h' = some (.inl (some (vI b)), h'') ∧ MI h'' P' H' X' ∧ Chg inM h' h'' ∧ gI h'' (20, 0, 0) 0 = k) : Agw L xs d w m A B h := by
  obtain ⟨h'', e3, m2, k2, t2⟩ := e2 (gb h1) (Lay_gb hL1) (MI_gb m1)
  refine ⟨k, b, _, h'', e1, e3, t2, fun z => absurd z hk, ⟨Lay_M (Lay_gb hL1) k2, P', H', X', CI_ch (CI_gb c1) k2 (fun a ha z => by rcases z with z | z <;> omega), m2, wi'⟩, ?_, ?_, ?_⟩
  · rw [k2.2.2.2.1]; exact k1.1
  · rw [k2.2.2.2.2.1]; exact Nat.le_of_eq (congrArg (· + 1) k1.2.1)
  · rw [k2.2.2.2.2.2.1]; exact Nat.le_of_eq (congrArg (· + 6) k1.2.2)
/-! the class's part -/
theorem CI_rd (c : CI h P H X) (k : ChR (sI h (11, 0, 0) 2 0) h') : CI h' P H (xs0 X) := by
  obtain ⟨c1, c2, c3, c4⟩ := c
  obtain ⟨k1, k2, k3, k4, k5, k6, k7, k8, k9⟩ := k
  have e : ∀ a : A3, a ≠ (11, 0, 0) → a ≠ (13, 0, 0) → gI h' a = gI h a := fun a h1 h2 => by
    rw [k7 a h1 h2]
    funext j
    rw [sI_I, if_neg fun z => h1 z.1]
  have t : ∀ p Q, Cls h p Q → Cls h' p Q := fun p Q q => Cls_of (fun k i _ h2 => e _ (fun z => by have := congrArg Prod.fst z; simp at this; omega) (fun z => by have := congrArg Prod.fst z; simp at this; omega)) (fun i => by rw [k8]; rfl) q
  obtain ⟨a1, a2, a3, a4, a5, a6, a7⟩ := c4
  refine ⟨t _ _ c1, t _ _ c2, fun k hk => t _ _ (c3 k hk), ?_, ?_, ?_, ?_, ?_, ?_, fun q hq => absurd hq (Nat.not_lt_zero q)⟩
  · rw [e _ (by simp) (by simp)]; exact a1
  · rw [e _ (by simp) (by simp)]; exact a2
  · rw [e _ (by simp) (by simp)]; exact a3
  · rw [e _ (by simp) (by simp)]; exact a4
  · rw [e _ (by simp) (by simp)]; exact a5
  · rw [k9, sI_I, if_pos ⟨rfl, rfl⟩]; rfl
theorem MI_rd (m : MI h P H X) (k : ChR (sI h (11, 0, 0) 2 0) h') : MI h' P H X := MI_of m fun a ha => by
  have n1 : a ≠ (11, 0, 0) := fun z => by rw [z] at ha; simp at ha
  have n2 : a ≠ (13, 0, 0) := fun z => by rw [z] at ha; simp at ha
  rw [k.2.2.2.2.2.2.1 a n1 n2]
  funext j
  rw [sI_I, if_neg fun z => n1 z.1]
theorem WI_rd (w : WI P H X) : WI P H (xs0 X) := by
  obtain ⟨w1, w2, w3, w4, w5, w6, w7, w8⟩ := w
  exact ⟨w1, w2, w3, w4, w5, Nat.zero_le _, fun k hk => absurd hk (Nat.not_lt_zero k), w8⟩
theorem CI_E (c : CI h P H X) {k : Nat} : CI (sI h (1, 0, 0) 7 (iN k)) P H (xsE X k) := by
  obtain ⟨c1, c2, c3, c4⟩ := c
  have kk : Chg (fun a => a = (1, 0, 0)) h (sI h (1, 0, 0) 7 (iN k)) := ch_sI rfl
  have n : ∀ a : A3, 2 ≤ a.1 → ¬ a = (1, 0, 0) := fun a ha z => by rw [z] at ha; simp at ha
  refine ⟨Cls_ch c1 kk (fun a _ h2 _ => n a h2), Cls_ch c2 kk (fun a _ h2 _ => n a h2), fun m hm => Cls_ch (c3 m hm) kk (fun a _ h2 _ => n a h2), ?_⟩
  obtain ⟨a1, a2, a3, a4, a5, a6, a7⟩ := c4
  refine ⟨?_, ?_, ?_, ?_, ?_, ?_, fun q hq => ?_⟩
  · rw [sI_I, if_neg (by simp)]; exact a1
  · rw [sI_I, if_neg (by simp)]; exact a2
  · rw [sI_I, if_neg (by simp)]; exact a3
  · rw [sI_I, if_neg (by simp)]; exact a4
  · rw [sI_I, if_pos ⟨rfl, rfl⟩]; rfl
  · rw [sI_I, if_neg (by simp)]; exact a6
  · rw [sI_I, if_neg (by simp)]; exact a7 q hq
theorem WI_E (w : WI P H X) {k : Nat} (hk : k < 100) : WI P H (xsE X k) := by
  obtain ⟨w1, w2, w3, w4, w5, w6, w7, w8, w9⟩ := w
  exact ⟨w1, w2, w3, w4, w5, w6, w7, w8, fun e he => by cases he; exact hk⟩
theorem WI_pre (w : WI P H X) : WI P (preH P H) X := by
  obtain ⟨w1, w2, w3, w4, w5, w6⟩ := w
  refine ⟨w1, w2, w3, w4, fun i hi => ?_, w6⟩
  show WFx (if (hO H + i) % 7 = (hO H + hC H) % 7 then P else hR H ((hO H + i) % 7))
  split
  · exact w1
  · exact w5 i hi
theorem MI_pre (m : MI h P H X) (hc : hC H ≤ 6) : MI h P (preH P H) X := by
  obtain ⟨m1, m2, m3⟩ := m
  refine ⟨m1, ⟨m2.1, fun i hi => ?_⟩, m3⟩
  have hi : i < hC H := hi
  show Row h (21, 19, 0) (1569 * i) (if (hO H + i) % 7 = (hO H + hC H) % 7 then P else hR H ((hO H + i) % 7))
  rw [if_neg (by omega)]
  exact m2.2 i hi
theorem Row_cp {r r' : A3} {o o' : Nat} (hW : WF P) (e : ∀ k, k < 1569 → gI h' r' (o' + k) = gI h r (o + k)) (R : Row h r o P) : Row h' r' o' P :=
  Arr_of R (w_pn hW) (w_tn hW) (w_wn hW) (fun f hf i hi => by
    have := e (rwO f + i) (rw_le f hf i hi)
    rwa [← Nat.add_assoc, ← Nat.add_assoc] at this) (fun s hs => by
    have := e (1564 + s) (by omega)
    rwa [← Nat.add_assoc, ← Nat.add_assoc] at this)
/-- m8, and that nothing but the ring changes -/
theorem m8p (hL : Lay L xs h) (c : CI h P H X) (ho : hO H < 7) (hc : hC H ≤ 6) : ∃ h', Ev d 8 0 [some (vR (9, 0, 0))] [] h = some (.inl none, h') ∧ CI h' P (kepH H) X ∧ Chg (fun a => a = (9, 0, 0)) h h' := by
  obtain ⟨c1, c2, c3, c4⟩ := c
  have n7 : ¬ (7 : Int32) = 0 := by decide
  unfold kepH
  by_cases y : hC H < 6
  · have hl : ¬ (6 : Int32) ≤ iN (hC H) := nle (n := 6) y (by decide)
    have k : Chg (fun a => a = (9, 0, 0)) h (sI h (9, 0, 0) 2 (iN (hC H + 1))) := ch_sI rfl
    refine ⟨sI h (9, 0, 0) 2 (iN (hC H + 1)), ?_, ?_, k⟩
    · simp only [v8_0, v8_1, v8_4, v8_6, v8_9, v8_10, v8_11, v8_14, v8_15, v8_16, v8_19, v8_22, v8_23, v8_24, v8_27, v8_28, v8_29, v8_31, v8_32, v8_35, n_14, n_8, inB_of, Nat.reduceLT, Prod.mk.injEq, true_and, rB, rBn, rBa, rBb, rBc, rBd, Evk_v, Evk_n, Nat.reduceAdd, Nat.reduceLeDiff, Nat.le_refl, Nat.zero_le, cz_0, cz_1, cI_1, cO_1, cz_2, cI_2, cO_2, cL_2, cD_2, cz_3, cI_3, cO_3, cL_3, cD_3, cz_4, cI_4, cO_4, cL_4, cD_4, cz_5, cI_5, cO_5, cL_5, cD_5, cz_6, cI_6, cO_6, cL_6, cD_6, cz_7, cI_7, cO_7, cL_7, cD_7, cz_8, cI_8, cO_8, cL_8, cD_8, List.mem_cons, or_true, true_or, and_self, sI_S, sL_S, sR_S, sD_S, gb_S, sI_R, sL_R, sD_R, gb_R, sI_L, sR_I, sR_L, sL_I, sD_I, sD_L, gb_I, gb_L, y_S9 hL, c4.1, c4.2.1, if_neg hl, iN_s, c1_It, c1_Ot, bI_T, bI_F, i10, i01]
    · rw [if_pos y]
      refine ⟨Cls_ch c1 k (fun a h1 h2 h3 z => by have z : a = (9, 0, 0) := z; rw [z] at h3; simp at h3), Cls_ch c2 k (fun a h1 h2 h3 z => by have z : a = (9, 0, 0) := z; rw [z] at h3; simp at h3), fun m hm => Cls_ch (c3 m hm) k (fun a h1 h2 h3 z => by have z : a = (9, 0, 0) := z; rw [z] at h3; simp at h3), ?_, ?_, ?_⟩
      · rw [sI_I, if_neg (by simp)]; exact c4.1
      · rw [sI_I, if_pos ⟨rfl, rfl⟩]
      · rw [ch_I k (by simp), ch_I k (by simp), ch_I k (by simp)]
        exact c4.2.2
  · have hl : (6 : Int32) ≤ iN (hC H) := ile (k := 6) (by omega) (by omega)
    have k : Chg (fun a => a = (9, 0, 0)) h (sI h (9, 0, 0) 1 (iN ((hO H + 1) % 7))) := ch_sI rfl
    refine ⟨sI h (9, 0, 0) 1 (iN ((hO H + 1) % 7)), ?_, ?_, k⟩
    · simp only [v8_0, v8_1, v8_4, v8_6, v8_9, v8_10, v8_11, v8_14, v8_15, v8_16, v8_19, v8_22, v8_23, v8_24, v8_27, v8_28, v8_29, v8_31, v8_32, v8_35, n_14, n_8, inB_of, Nat.reduceLT, Prod.mk.injEq, true_and, rB, rBn, rBa, rBb, rBc, rBd, Evk_v, Evk_n, Nat.reduceAdd, Nat.reduceLeDiff, Nat.le_refl, Nat.zero_le, cz_0, cz_1, cI_1, cO_1, cz_2, cI_2, cO_2, cL_2, cD_2, cz_3, cI_3, cO_3, cL_3, cD_3, cz_4, cI_4, cO_4, cL_4, cD_4, cz_5, cI_5, cO_5, cL_5, cD_5, cz_6, cI_6, cO_6, cL_6, cD_6, cz_7, cI_7, cO_7, cL_7, cD_7, cz_8, cI_8, cO_8, cL_8, cD_8, List.mem_cons, or_true, true_or, and_self, sI_S, sL_S, sR_S, sD_S, gb_S, sI_R, sL_R, sD_R, gb_R, sI_L, sR_I, sR_L, sL_I, sD_I, sD_L, gb_I, gb_L, y_S9 hL, c4.1, c4.2.1, if_pos hl, iN_s, n7, not_false_eq_true, ne_eq, iN_d7 (show hO H + 1 < 2147483648 by omega), iN_m7, c1_It, c1_Ot, bI_T, bI_F, i10, i01]
    · rw [if_neg y]
      refine ⟨Cls_ch c1 k (fun a h1 h2 h3 z => by have z : a = (9, 0, 0) := z; rw [z] at h3; simp at h3), Cls_ch c2 k (fun a h1 h2 h3 z => by have z : a = (9, 0, 0) := z; rw [z] at h3; simp at h3), fun m hm => Cls_ch (c3 m hm) k (fun a h1 h2 h3 z => by have z : a = (9, 0, 0) := z; rw [z] at h3; simp at h3), ?_, ?_, ?_⟩
      · rw [sI_I, if_pos ⟨rfl, rfl⟩]
      · rw [sI_I, if_neg (by simp)]; exact c4.2.1
      · rw [ch_I k (by simp), ch_I k (by simp), ch_I k (by simp)]
        exact c4.2.2
/-- what the class's reading of a right text comes to -/
theorem rdA (hL : Lay L xs h) (c : CI h P H X) (wi : WI P H X) (he : e ≤ 20) (hh : gI h (11, 0, 0) 3 = iN e) (h13 : ∀ j, j < 100 → gI h (13, 0, 0) j = x j) {r : Int32} (okr : okR r) (wx' : WFx P') {w1 : Option MV}
    (cl : ∀ d h w1, Lay L xs h → Cls h 0 P → gI h (11, 0, 0) 3 = iN e → (∀ j, j < 100 → gI h (13, 0, 0) j = x j) → ∃ h' q', Ev (d + 11) 125 44 [some (vR (1, 0, 0)), w1, some (vI 0), some (vI (iN 0))] [] h = Ev (d + 11) 125 118 [some (vR (1, 0, 0)), w1, some (vI r), q'] [] h' ∧ Chg (inP 0) h h' ∧ Cls h' 0 P') :
    ∃ h', Chg inC h h' ∧ (r = 0 → Ev (d + 19) 125 29 [some (vR (1, 0, 0)), w1, none, none] [] h = some (.inl (some (vI (iN e))), h') ∧ CI h' P' (psH P H) X ∧ WI P' (psH P H) X) ∧ (r ≠ 0 → Ev (d + 19) 125 29 [some (vR (1, 0, 0)), w1, none, none] [] h = some (.inr 1, gb h') ∧ CI h' P (preH P H) (xsK X r) ∧ WI P (preH P H) (xsK X r)) := by
  have hW := wi.1.1
  have w3 := wi.2.2.1
  have w4 := wi.2.2.2.1
  obtain ⟨ha, e7, cA, kA⟩ := m7p (d := d + 15) hL c w3 w4 (w_wn hW)
  have kA' : Chg inC h ha := ch_m inP_C kA
  have hLa := Lay_C hL kA'
  have n11 : gI ha (11, 0, 0) = gI h (11, 0, 0) := ch_I kA (fun z => by have := z.2.2; simp at this)
  have n13 : gI ha (13, 0, 0) = gI h (13, 0, 0) := ch_I kA (fun z => by have := z.2.2; simp at this)
  obtain ⟨hb, q', eB, kB, cB⟩ := cl (d + 8) ha w1 hLa cA.1 (by rw [n11]; exact hh) (fun j hj => by rw [n13]; exact h13 j hj)
  have eB : Ev (d + 19) 125 44 [some (vR (1, 0, 0)), w1, some (vI 0), some (vI 0)] [] ha = Ev (d + 19) 125 118 [some (vR (1, 0, 0)), w1, some (vI r), q'] [] hb := eB
  have cB' : CI hb P' (preH P H) X := CI_pl cA kB cB
  have kB' : Chg inC h hb := ch_t kA' (ch_m inP_C kB)
  have hLb := Lay_C hL kB'
  have e29 : Ev (d + 19) 125 29 [some (vR (1, 0, 0)), w1, none, none] [] h = Ev (d + 19) 125 118 [some (vR (1, 0, 0)), w1, some (vI r), q'] [] hb := by
    refine Eq.trans ?_ eB
    simp only [v125_29, v125_30, v125_33, v125_34, v125_37, v125_40, v125_41, v125_42, v125_43, n_14, n_8, inB_of, Nat.reduceLT, Prod.mk.injEq, true_and, rB, rBn, rBa, rBb, rBc, rBd, Evk_v, Evk_n, Nat.reduceAdd, Nat.reduceLeDiff, Nat.le_refl, Nat.zero_le, cz_0, cz_1, cI_1, cO_1, cz_2, cI_2, cO_2, cL_2, cD_2, cz_3, cI_3, cO_3, cL_3, cD_3, cz_4, cI_4, cO_4, cL_4, cD_4, cz_5, cI_5, cO_5, cL_5, cD_5, cz_6, cI_6, cO_6, cL_6, cD_6, cz_7, cI_7, cO_7, cL_7, cD_7, cz_8, cI_8, cO_8, cL_8, cD_8, List.mem_cons, or_true, true_or, and_self, sI_S, sL_S, sR_S, sD_S, gb_S, sI_R, sL_R, sD_R, gb_R, sI_L, sR_I, sR_L, sL_I, sD_I, sD_L, gb_I, gb_L, y_S1 hL, y_R1_2 hL, y_R1_0 hL, y_S9 hL, y_S2 hL (show 0 < 9 by decide), e7]
  by_cases z : r = 0
  · obtain ⟨hc, e8, cC, kC⟩ := m8p (d := d + 18) hLb cB' w3 w4
    have kC' : Chg inC h hc := ch_t kB' (ch_m (fun a z => by have z : a = (9, 0, 0) := z; rw [z]; exact Nat.le_of_ble_eq_true rfl) kC)
    have hLc := Lay_C hL kC'
    have e3 : gI hc (11, 0, 0) 3 = iN e := by
      rw [ch_I kC (by simp), ch_I kB (fun z => by have := z.2.2; simp at this), n11]; exact hh
    refine ⟨hc, kC', fun _ => ⟨?_, cC, WI_ps wi wx'⟩, fun q => absurd z q⟩
    rw [e29]
    simp only [v125_118, v125_119, v125_122, v125_123, v125_126, v125_127, v125_130, v125_133, v125_134, v125_135, v125_138, v125_139, v125_140, v125_143, v125_146, v125_154, v125_155, v125_158, v125_161, v125_162, v125_165, v125_168, n_14, n_8, inB_of, Nat.reduceLT, Prod.mk.injEq, true_and, rB, rBn, rBa, rBb, rBc, rBd, Evk_v, Evk_n, Nat.reduceAdd, Nat.reduceLeDiff, Nat.le_refl, Nat.zero_le, cz_0, cz_1, cI_1, cO_1, cz_2, cI_2, cO_2, cL_2, cD_2, cz_3, cI_3, cO_3, cL_3, cD_3, cz_4, cI_4, cO_4, cL_4, cD_4, cz_5, cI_5, cO_5, cL_5, cD_5, cz_6, cI_6, cO_6, cL_6, cD_6, cz_7, cI_7, cO_7, cL_7, cD_7, cz_8, cI_8, cO_8, cL_8, cD_8, List.mem_cons, or_true, true_or, and_self, sI_S, sL_S, sR_S, sD_S, gb_S, sI_R, sL_R, sD_R, gb_R, sI_L, sR_I, sR_L, sL_I, sD_I, sD_L, gb_I, gb_L, z, if_true, y_S1 hLb, y_R1_2 hLb, y_S9 hLb, e8, y_S1 hLc, y_R1_3 hLc, y_S11 hLc, e3]
  · have eP : hR (preH P H) ((hO (preH P H) + hC (preH P H)) % 7) = P := if_pos rfl
    obtain ⟨hc, e9, cC, kC⟩ := m9 (d := d + 15) hLb cB' w3 w4 (by rw [eP]; exact w_wn hW)
    rw [eP] at cC
    have kC' : Chg inC h hc := ch_t kB' kC
    have hLc := Lay_C hL kC'
    by_cases y : r = -1
    · refine ⟨hc, kC', fun q => absurd q z, fun _ => ⟨?_, ?_, ?_⟩⟩
      · rw [e29]
        simp only [v125_118, v125_119, v125_122, v125_123, v125_126, v125_127, v125_130, v125_133, v125_134, v125_135, v125_138, v125_139, v125_140, v125_143, v125_146, v125_154, v125_155, v125_158, v125_161, v125_162, v125_165, v125_168, n_14, n_8, inB_of, Nat.reduceLT, Prod.mk.injEq, true_and, rB, rBn, rBa, rBb, rBc, rBd, Evk_v, Evk_n, Nat.reduceAdd, Nat.reduceLeDiff, Nat.le_refl, Nat.zero_le, cz_0, cz_1, cI_1, cO_1, cz_2, cI_2, cO_2, cL_2, cD_2, cz_3, cI_3, cO_3, cL_3, cD_3, cz_4, cI_4, cO_4, cL_4, cD_4, cz_5, cI_5, cO_5, cL_5, cD_5, cz_6, cI_6, cO_6, cL_6, cD_6, cz_7, cI_7, cO_7, cL_7, cD_7, cz_8, cI_8, cO_8, cL_8, cD_8, List.mem_cons, or_true, true_or, and_self, sI_S, sL_S, sR_S, sD_S, gb_S, sI_R, sL_R, sD_R, gb_R, sI_L, sR_I, sR_L, sL_I, sD_I, sD_L, gb_I, gb_L, if_neg z, if_pos y, y_S1 hLb, y_R1_2 hLb, y_R1_0 hLb, y_S9 hLb, y_S2 hLb (show 0 < 9 by decide), e9]
      · unfold xsK; rw [if_pos (Or.inr y)]; exact cC
      · unfold xsK; rw [if_pos (Or.inr y)]; exact WI_pre wi
    · obtain ⟨k, k0, k1, rfl⟩ := (okr.resolve_left z).resolve_left y
      refine ⟨sI hc (1, 0, 0) 6 (iN k), ch_t kC' ch_R6, fun q => absurd q z, fun _ => ⟨?_, ?_, ?_⟩⟩
      · rw [e29]
        simp only [v125_118, v125_119, v125_122, v125_123, v125_126, v125_127, v125_130, v125_133, v125_134, v125_135, v125_138, v125_139, v125_140, v125_143, v125_146, v125_154, v125_155, v125_158, v125_161, v125_162, v125_165, v125_168, n_14, n_8, inB_of, Nat.reduceLT, Prod.mk.injEq, true_and, rB, rBn, rBa, rBb, rBc, rBd, Evk_v, Evk_n, Nat.reduceAdd, Nat.reduceLeDiff, Nat.le_refl, Nat.zero_le, cz_0, cz_1, cI_1, cO_1, cz_2, cI_2, cO_2, cL_2, cD_2, cz_3, cI_3, cO_3, cL_3, cD_3, cz_4, cI_4, cO_4, cL_4, cD_4, cz_5, cI_5, cO_5, cL_5, cD_5, cz_6, cI_6, cO_6, cL_6, cD_6, cz_7, cI_7, cO_7, cL_7, cD_7, cz_8, cI_8, cO_8, cL_8, cD_8, List.mem_cons, or_true, true_or, and_self, sI_S, sL_S, sR_S, sD_S, gb_S, sI_R, sL_R, sD_R, gb_R, sI_L, sR_I, sR_L, sL_I, sD_I, sD_L, gb_I, gb_L, if_neg z, if_neg y, y_S1 hLb, y_R1_2 hLb, y_R1_0 hLb, y_S9 hLb, y_S2 hLb (show 0 < 9 by decide), e9, y_S1 hLc]
      · unfold xsK
        rw [if_neg (fun q => q.elim z y), n_i (by omega)]
        exact CI_R cC
      · unfold xsK
        rw [if_neg (fun q => q.elim z y), n_i (by omega)]
        exact WI_X (WI_pre wi) k0 k1
end R8
