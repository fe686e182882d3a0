/-! THE STATE OF BOTH between two calls; the class's history -/

/-- the ring of the plans remembered, the oldest, how many -/
abbrev HS : Type := (Nat → PL) × Nat × Nat
/-- the saved plan, whether there is one, the input (length, signs), the reason, the error position -/
abbrev XS : Type := PL × Bool × Nat × (Nat → Int32) × Option Nat × Option Nat
abbrev hR (H : HS) : Nat → PL := H.1
abbrev hO (H : HS) : Nat := H.2.1
abbrev hC (H : HS) : Nat := H.2.2
abbrev xS (X : XS) : PL := X.1
abbrev xF (X : XS) : Bool := X.2.1
abbrev xL (X : XS) : Nat := X.2.2.1
abbrev xI (X : XS) : Nat → Int32 := X.2.2.2.1
abbrev xR (X : XS) : Option Nat := X.2.2.2.2.1
abbrev xE (X : XS) : Option Nat := X.2.2.2.2.2
def oZ (o : Option Nat) : Int32 := match o with
  | none => 0
  | some k => iN k
def CX (h : Hp) (H : HS) (X : XS) : Prop := gI h (9, 0, 0) 1 = iN (hO H) ∧ gI h (9, 0, 0) 2 = iN (hC H) ∧ gI h (1, 0, 0) 5 = bI (xF X = true) ∧ gI h (1, 0, 0) 6 = oN (xR X) ∧ gI h (1, 0, 0) 7 = oN (xE X) ∧ gI h (11, 0, 0) 2 = iN (xL X) ∧ ∀ k, k < xL X → gI h (12, 0, 0) k = xI X k
def CI (h : Hp) (P : PL) (H : HS) (X : XS) : Prop := Cls h 0 P ∧ Cls h 1 (xS X) ∧ (∀ k, k < 7 → Cls h (k + 2) (hR H k)) ∧ CX h H X
def MX (h : Hp) (H : HS) (X : XS) : Prop := gI h (20, 0, 0) 33 = iN (hC H) ∧ gI h (20, 0, 0) 35 = bI (xF X = true) ∧ gI h (20, 0, 0) 22 = oZ (xR X) ∧ gI h (20, 0, 0) 29 = oN (xE X) ∧ gI h (20, 0, 0) 26 = iN (xL X) ∧ gI h (20, 0, 0) 37 = 0 ∧ ∀ k, k < xL X → gI h (21, 16, 0) k = xI X k
def MR (h : Hp) (H : HS) (X : XS) : Prop := (xF X = true → Row h (21, 20, 0) 0 (xS X)) ∧ ∀ i, i < hC H → Row h (21, 19, 0) (1569 * i) (hR H ((hO H + i) % 7))
def MI (h : Hp) (P : PL) (H : HS) (X : XS) : Prop := Mod h P ∧ MR h H X ∧ MX h H X
def WI (P : PL) (H : HS) (X : XS) : Prop := WFx P ∧ (xF X = true → WFx (xS X)) ∧ hO H < 7 ∧ hC H ≤ 6 ∧ (∀ i, i < hC H → WFx (hR H ((hO H + i) % 7))) ∧ xL X ≤ 60 ∧ (∀ k, k < xL X → ∃ c, c < 127 ∧ xI X k = iN c) ∧ (∀ r, xR X = some r → 0 < r ∧ r < 100) ∧ ∀ e, xE X = some e → e < 100
def inC (a : A3) : Prop := a.1 ≤ 15
def inM (a : A3) : Prop := a.1 = 20 ∨ a.1 = 21
theorem inP_C {p : Nat} : ∀ a, inP p a → inC a := fun a z => Nat.le_trans z.2.2 (by decide)
section Inv
variable {L : Nat} {xs : Nat → Int32} {h h' : Hp} {P : PL} {H : HS} {X : XS} {d : Nat} {A : A3 → Prop}
theorem CI_of (c : CI h P H X) (hI : ∀ a : A3, a.1 ≤ 15 → gI h' a = gI h a) (hl : ∀ a : A3, a.1 = 4 → gL h' a = gL h a) : CI h' P H X := by
  obtain ⟨c1, c2, c3, c4⟩ := c
  have t : ∀ p Q, Cls h p Q → Cls h' p Q := fun p Q q => Cls_of (fun k i _ h2 => hI _ (show k ≤ 15 by omega)) (fun i => hl _ rfl) q
  refine ⟨t _ _ c1, t _ _ c2, fun k hk => t _ _ (c3 k hk), ?_⟩
  unfold CX
  rw [hI (9, 0, 0) (by decide), hI (1, 0, 0) (by decide), hI (11, 0, 0) (by decide), hI (12, 0, 0) (by decide)]
  exact c4
theorem MI_of (c : MI h P H X) (hI : ∀ a : A3, a.1 = 20 ∨ a.1 = 21 → gI h' a = gI h a) : MI h' P H X := by
  obtain ⟨c1, c2, c3⟩ := c
  refine ⟨Mod_of (hI _ (Or.inl rfl)) (fun k => hI _ (Or.inr rfl)) c1, ?_, ?_⟩
  · unfold MR Row
    rw [hI (21, 20, 0) (Or.inr rfl), hI (21, 19, 0) (Or.inr rfl)]
    exact c2
  · unfold MX
    rw [hI (20, 0, 0) (Or.inl rfl), hI (21, 16, 0) (Or.inr rfl)]
    exact c3
theorem CI_ch (c : CI h P H X) (k : Chg A h h') (hA : ∀ a : A3, a.1 ≤ 15 → ¬ A a) : CI h' P H X := CI_of c (fun a ha => ch_I k (hA a ha)) (fun a ha => ch_L k (hA a (by omega)))
theorem MI_ch (c : MI h P H X) (k : Chg A h h') (hA : ∀ a : A3, a.1 = 20 ∨ a.1 = 21 → ¬ A a) : MI h' P H X := MI_of c (fun a ha => ch_I k (hA a ha))
theorem CX_ch (c : CX h H X) (k : Chg A h h') (h9 : ¬ A (9, 0, 0)) (h1 : ¬ A (1, 0, 0)) (h11 : ¬ A (11, 0, 0)) (h12 : ¬ A (12, 0, 0)) : CX h' H X := by
  unfold CX
  rw [ch_I k h9, ch_I k h1, ch_I k h11, ch_I k h12]
  exact c
theorem Lay_C (hL : Lay L xs h) (c : Chg inC h h') : Lay L xs h' := Lay_ch hL c (fun a ha z => by have : a.1 ≤ 15 := z; omega)
theorem Lay_P {p : Nat} (hL : Lay L xs h) (c : Chg (inP p) h h') : Lay L xs h' := Lay_C hL (ch_m inP_C c)
theorem Lay_M (hL : Lay L xs h) (c : Chg inM h h') : Lay L xs h' := Lay_ch hL c (fun a ha z => by rcases z with z | z <;> omega)
/-- the plan 0 changed within itself -/
theorem CI_pl {P' : PL} (c : CI h P H X) (k : Chg (inP 0) h h') (hC : Cls h' 0 P') : CI h' P' H X := by
  obtain ⟨c1, c2, c3, c4⟩ := c
  refine ⟨hC, Cls_ch c2 k (fun a h1 h2 h3 z => by have := z.1; omega), fun m hm => Cls_ch (c3 m hm) k (fun a h1 h2 h3 z => by have := z.1; omega), CX_ch c4 k (fun z => by have := z.2.2; simp at this) (fun z => by have := z.2.1; simp at this) (fun z => by have := z.2.2; simp at this) (fun z => by have := z.2.2; simp at this)⟩
/-! the history of the class -/
def preH (P : PL) (H : HS) : HS := (fun k => if k = (hO H + hC H) % 7 then P else hR H k, H.2)
def kepH (H : HS) : HS := if hC H < 6 then (hR H, hO H, hC H + 1) else (hR H, (hO H + 1) % 7, hC H)
def psH (P : PL) (H : HS) : HS := kepH (preH P H)
theorem iN_d7 {a : Nat} (ha : a < 2147483648) : iN a / 7 = iN (a / 7) := iN_div ha (by decide)
theorem iN_m7 {a : Nat} : iN a - iN (a / 7) * 7 = iN (a % 7) := by
  show iN a - iN (a / 7) * iN 7 = _
  rw [iN_mul, iN_sub (by omega)]
  congr 1; omega
theorem m11 (hL : Lay L xs h) {o c : Nat} (e1 : gI h (9, 0, 0) 1 = iN o) (e2 : gI h (9, 0, 0) 2 = iN c) (ho : o < 100) (hc : c < 100) : Ev d 11 0 [some (vR (9, 0, 0))] [] h = some (.inl (some (vI (iN ((o + c) % 7)))), h) := by
  have n7 : ¬ (7 : Int32) = 0 := by decide
  simp only [v11_0, v11_1, v11_4, v11_5, v11_8, v11_9, v11_11, v11_12, n_14, n_8, inB_of, Nat.reduceLT, Prod.mk.injEq, true_and, rB, rBn, rBa, rBb, rBc, rBd, Evk_v, Evk_n, Nat.reduceAdd, Nat.reduceLeDiff, Nat.le_refl, Nat.zero_le, cz_0, cz_1, cI_1, cO_1, cz_2, cI_2, cO_2, cL_2, cD_2, cz_3, cI_3, cO_3, cL_3, cD_3, cz_4, cI_4, cO_4, cL_4, cD_4, cz_5, cI_5, cO_5, cL_5, cD_5, cz_6, cI_6, cO_6, cL_6, cD_6, cz_7, cI_7, cO_7, cL_7, cD_7, cz_8, cI_8, cO_8, cL_8, cD_8, List.mem_cons, or_true, true_or, and_self, sI_S, sL_S, sR_S, sD_S, gb_S, sI_R, sL_R, sD_R, gb_R, sI_L, sR_I, sR_L, sL_I, sD_I, sD_L, gb_I, gb_L, y_S9 hL, e1, e2, iN_add, n7, not_false_eq_true, ne_eq, iN_d7 (show o + c < 2147483648 by omega), iN_m7]
theorem m7 (hL : Lay L xs h) (c : CI h P H X) (ho : hO H < 7) (hc : hC H ≤ 6) (hw : wn P ≤ 8) : ∃ h', Ev (d + 3) 7 0 [some (vR (9, 0, 0)), some (vR (2, 0, 0))] [] h = some (.inl none, h') ∧ CI h' P (preH P H) X ∧ Chg inC h h' := by
  obtain ⟨c1, c2, c3, c4⟩ := c
  have hi : (hO H + hC H) % 7 < 7 := Nat.mod_lt _ (by decide)
  obtain ⟨h', e, k, q⟩ := m32 (d := d) hL (p := (hO H + hC H) % 7 + 2) (q := 0) (by omega) (by decide) (by omega) (c3 _ hi) c1 hw
  refine ⟨h', ?_, ⟨Cls_ch c1 k (fun a h1 h2 h3 z => by have := z.1; omega), Cls_ch c2 k (fun a h1 h2 h3 z => by have := z.1; omega), fun m hm => ?_, CX_ch c4 k (fun z => by have := z.2.2; simp at this) (fun z => by have := z.2.1; simp at this) (fun z => by have := z.2.2; simp at this) (fun z => by have := z.2.2; simp at this)⟩, ch_m inP_C k⟩
  · have hi14 : (hO H + hC H) % 7 < 14 := by omega
    simp only [v7_0, v7_1, v7_4, v7_5, v7_8, v7_9, v7_10, v7_13, n_14, n_8, inB_of, Nat.reduceLT, Prod.mk.injEq, true_and, rB, rBn, rBa, rBb, rBc, rBd, Evk_v, Evk_n, Nat.reduceAdd, Nat.reduceLeDiff, Nat.le_refl, Nat.zero_le, cz_0, cz_1, cI_1, cO_1, cz_2, cI_2, cO_2, cL_2, cD_2, cz_3, cI_3, cO_3, cL_3, cD_3, cz_4, cI_4, cO_4, cL_4, cD_4, cz_5, cI_5, cO_5, cL_5, cD_5, cz_6, cI_6, cO_6, cL_6, cD_6, cz_7, cI_7, cO_7, cL_7, cD_7, cz_8, cI_8, cO_8, cL_8, cD_8, List.mem_cons, or_true, true_or, and_self, sI_S, sL_S, sR_S, sD_S, gb_S, sI_R, sL_R, sD_R, gb_R, sI_L, sR_I, sR_L, sL_I, sD_I, sD_L, gb_I, gb_L, y_S9 hL, y_R9 hL, y_S10 hL, y_R10 hL, y_S2 hL, m11 hL c4.1 c4.2.1 (by omega) (by omega), hi, hi14, show (hO H + hC H) % 7 + 2 < 9 by omega, e]
  · show Cls h' (m + 2) (if m = (hO H + hC H) % 7 then P else hR H m)
    by_cases y : m = (hO H + hC H) % 7
    · rw [if_pos y, y]; exact q
    · rw [if_neg y]
      exact Cls_ch (c3 m hm) k (fun a h1 h2 h3 z => by have := z.1; omega)
theorem m8 (hL : Lay L xs h) (c : CI h P H X) (ho : hO H < 7) (hc : hC H ≤ 6) : ∃ h', Ev d 8 0 [some (vR (9, 0, 0))] [] h = some (.inl none, h') ∧ CI h' P (kepH H) X ∧ Chg inC h h' := by
  obtain ⟨c1, c2, c3, c4⟩ := c
  have n7 : ¬ (7 : Int32) = 0 := by decide
  unfold kepH
  by_cases y : hC H < 6
  · have hl : ¬ (6 : Int32) ≤ iN (hC H) := nle (n := 6) y (by decide)
    have k : Chg (fun a => a = (9, 0, 0)) h (sI h (9, 0, 0) 2 (iN (hC H + 1))) := ch_sI rfl
    refine ⟨sI h (9, 0, 0) 2 (iN (hC H + 1)), ?_, ?_, ch_m (fun a z => by have z : a = (9, 0, 0) := z; rw [z]; exact Nat.le_of_ble_eq_true rfl) k⟩
    · simp only [v8_0, v8_1, v8_4, v8_6, v8_9, v8_10, v8_11, v8_14, v8_15, v8_16, v8_19, v8_22, v8_23, v8_24, v8_27, v8_28, v8_29, v8_31, v8_32, v8_35, n_14, n_8, inB_of, Nat.reduceLT, Prod.mk.injEq, true_and, rB, rBn, rBa, rBb, rBc, rBd, Evk_v, Evk_n, Nat.reduceAdd, Nat.reduceLeDiff, Nat.le_refl, Nat.zero_le, cz_0, cz_1, cI_1, cO_1, cz_2, cI_2, cO_2, cL_2, cD_2, cz_3, cI_3, cO_3, cL_3, cD_3, cz_4, cI_4, cO_4, cL_4, cD_4, cz_5, cI_5, cO_5, cL_5, cD_5, cz_6, cI_6, cO_6, cL_6, cD_6, cz_7, cI_7, cO_7, cL_7, cD_7, cz_8, cI_8, cO_8, cL_8, cD_8, List.mem_cons, or_true, true_or, and_self, sI_S, sL_S, sR_S, sD_S, gb_S, sI_R, sL_R, sD_R, gb_R, sI_L, sR_I, sR_L, sL_I, sD_I, sD_L, gb_I, gb_L, y_S9 hL, c4.1, c4.2.1, if_neg hl, iN_s, c1_It, c1_Ot, bI_T, bI_F, i10, i01]
    · rw [if_pos y]
      refine ⟨Cls_ch c1 k (fun a h1 h2 h3 z => by have z : a = (9, 0, 0) := z; rw [z] at h3; simp at h3), Cls_ch c2 k (fun a h1 h2 h3 z => by have z : a = (9, 0, 0) := z; rw [z] at h3; simp at h3), fun m hm => Cls_ch (c3 m hm) k (fun a h1 h2 h3 z => by have z : a = (9, 0, 0) := z; rw [z] at h3; simp at h3), ?_, ?_, ?_⟩
      · rw [sI_I, if_neg (by simp)]; exact c4.1
      · rw [sI_I, if_pos ⟨rfl, rfl⟩]
      · rw [ch_I k (by simp), ch_I k (by simp), ch_I k (by simp)]
        exact c4.2.2
  · have hl : (6 : Int32) ≤ iN (hC H) := ile (k := 6) (by omega) (by omega)
    have k : Chg (fun a => a = (9, 0, 0)) h (sI h (9, 0, 0) 1 (iN ((hO H + 1) % 7))) := ch_sI rfl
    refine ⟨sI h (9, 0, 0) 1 (iN ((hO H + 1) % 7)), ?_, ?_, ch_m (fun a z => by have z : a = (9, 0, 0) := z; rw [z]; exact Nat.le_of_ble_eq_true rfl) k⟩
    · simp only [v8_0, v8_1, v8_4, v8_6, v8_9, v8_10, v8_11, v8_14, v8_15, v8_16, v8_19, v8_22, v8_23, v8_24, v8_27, v8_28, v8_29, v8_31, v8_32, v8_35, n_14, n_8, inB_of, Nat.reduceLT, Prod.mk.injEq, true_and, rB, rBn, rBa, rBb, rBc, rBd, Evk_v, Evk_n, Nat.reduceAdd, Nat.reduceLeDiff, Nat.le_refl, Nat.zero_le, cz_0, cz_1, cI_1, cO_1, cz_2, cI_2, cO_2, cL_2, cD_2, cz_3, cI_3, cO_3, cL_3, cD_3, cz_4, cI_4, cO_4, cL_4, cD_4, cz_5, cI_5, cO_5, cL_5, cD_5, cz_6, cI_6, cO_6, cL_6, cD_6, cz_7, cI_7, cO_7, cL_7, cD_7, cz_8, cI_8, cO_8, cL_8, cD_8, List.mem_cons, or_true, true_or, and_self, sI_S, sL_S, sR_S, sD_S, gb_S, sI_R, sL_R, sD_R, gb_R, sI_L, sR_I, sR_L, sL_I, sD_I, sD_L, gb_I, gb_L, y_S9 hL, c4.1, c4.2.1, if_pos hl, iN_s, n7, not_false_eq_true, ne_eq, iN_d7 (show hO H + 1 < 2147483648 by omega), iN_m7, c1_It, c1_Ot, bI_T, bI_F, i10, i01]
    · rw [if_neg y]
      refine ⟨Cls_ch c1 k (fun a h1 h2 h3 z => by have z : a = (9, 0, 0) := z; rw [z] at h3; simp at h3), Cls_ch c2 k (fun a h1 h2 h3 z => by have z : a = (9, 0, 0) := z; rw [z] at h3; simp at h3), fun m hm => Cls_ch (c3 m hm) k (fun a h1 h2 h3 z => by have z : a = (9, 0, 0) := z; rw [z] at h3; simp at h3), ?_, ?_, ?_⟩
      · rw [sI_I, if_pos ⟨rfl, rfl⟩]
      · rw [sI_I, if_neg (by simp)]; exact c4.2.1
      · rw [ch_I k (by simp), ch_I k (by simp), ch_I k (by simp)]
        exact c4.2.2
theorem m6 (hL : Lay L xs h) (c : CI h P H X) (ho : hO H < 7) (hc : hC H ≤ 6) (hw : wn P ≤ 8) : ∃ h', Ev (d + 4) 6 0 [some (vR (9, 0, 0)), some (vR (2, 0, 0))] [] h = some (.inl none, h') ∧ CI h' P (psH P H) X ∧ Chg inC h h' := by
  obtain ⟨h1, e1, k1, q1⟩ := m7 (d := d) hL c ho hc hw
  have hL1 := Lay_C hL q1
  obtain ⟨h2, e2, k2, q2⟩ := m8 (d := d + 3) hL1 k1 ho hc
  refine ⟨h2, ?_, k2, ch_t q1 q2⟩
  simp only [v6_0, v6_1, v6_2, v6_5, v6_6, v6_9, n_14, n_8, inB_of, Nat.reduceLT, Prod.mk.injEq, true_and, rB, rBn, rBa, rBb, rBc, rBd, Evk_v, Evk_n, Nat.reduceAdd, Nat.reduceLeDiff, Nat.le_refl, Nat.zero_le, cz_0, cz_1, cI_1, cO_1, cz_2, cI_2, cO_2, cL_2, cD_2, cz_3, cI_3, cO_3, cL_3, cD_3, cz_4, cI_4, cO_4, cL_4, cD_4, cz_5, cI_5, cO_5, cL_5, cD_5, cz_6, cI_6, cO_6, cL_6, cD_6, cz_7, cI_7, cO_7, cL_7, cD_7, cz_8, cI_8, cO_8, cL_8, cD_8, List.mem_cons, or_true, true_or, and_self, sI_S, sL_S, sR_S, sD_S, gb_S, sI_R, sL_R, sD_R, gb_R, sI_L, sR_I, sR_L, sL_I, sD_I, sD_L, gb_I, gb_L, y_S9 hL, e1, y_S9 hL1, e2]
/-- a plan given back: the one at the ring's place behind -/
theorem m9 (hL : Lay L xs h) (c : CI h P H X) (ho : hO H < 7) (hc : hC H ≤ 6) (hw : wn (hR H ((hO H + hC H) % 7)) ≤ 8) : ∃ h', Ev (d + 3) 9 0 [some (vR (9, 0, 0)), some (vR (2, 0, 0))] [] h = some (.inl none, h') ∧ CI h' (hR H ((hO H + hC H) % 7)) H X ∧ Chg inC h h' := by
  have hi : (hO H + hC H) % 7 < 7 := Nat.mod_lt _ (by decide)
  obtain ⟨h', e, k, q⟩ := m32 (d := d) hL (p := 0) (q := (hO H + hC H) % 7 + 2) (by decide) (by omega) (by omega) c.1 (c.2.2.1 _ hi) hw
  refine ⟨h', ?_, CI_pl c k q, ch_m inP_C k⟩
  have hi14 : (hO H + hC H) % 7 < 14 := by omega
  have c4 := c.2.2.2
  simp only [v9_0, v9_1, v9_2, v9_5, v9_6, v9_9, v9_10, v9_13, n_14, n_8, inB_of, Nat.reduceLT, Prod.mk.injEq, true_and, rB, rBn, rBa, rBb, rBc, rBd, Evk_v, Evk_n, Nat.reduceAdd, Nat.reduceLeDiff, Nat.le_refl, Nat.zero_le, cz_0, cz_1, cI_1, cO_1, cz_2, cI_2, cO_2, cL_2, cD_2, cz_3, cI_3, cO_3, cL_3, cD_3, cz_4, cI_4, cO_4, cL_4, cD_4, cz_5, cI_5, cO_5, cL_5, cD_5, cz_6, cI_6, cO_6, cL_6, cD_6, cz_7, cI_7, cO_7, cL_7, cD_7, cz_8, cI_8, cO_8, cL_8, cD_8, List.mem_cons, or_true, true_or, and_self, sI_S, sL_S, sR_S, sD_S, gb_S, sI_R, sL_R, sD_R, gb_R, sI_L, sR_I, sR_L, sL_I, sD_I, sD_L, gb_I, gb_L, y_S9 hL, y_R9 hL, y_S10 hL, y_R10 hL, y_S2 hL, m11 hL c4.1 c4.2.1 (by omega) (by omega), hi, hi14, show (hO H + hC H) % 7 + 2 < 9 by omega, show 0 < 9 by decide, e]
theorem m5 (hL : Lay L xs h) (c : CI h P H X) : ∃ h', Ev d 5 0 [some (vR (9, 0, 0))] [] h = some (.inl none, h') ∧ CI h' P (hR H, hO H, 0) X ∧ Chg inC h h' := by
  obtain ⟨c1, c2, c3, c4⟩ := c
  have k : Chg (fun a => a = (9, 0, 0)) h (sI h (9, 0, 0) 2 0) := ch_sI rfl
  refine ⟨sI h (9, 0, 0) 2 0, ?_, ⟨Cls_ch c1 k (fun a h1 h2 h3 z => by have z : a = (9, 0, 0) := z; rw [z] at h3; simp at h3), Cls_ch c2 k (fun a h1 h2 h3 z => by have z : a = (9, 0, 0) := z; rw [z] at h3; simp at h3), fun m hm => Cls_ch (c3 m hm) k (fun a h1 h2 h3 z => by have z : a = (9, 0, 0) := z; rw [z] at h3; simp at h3), ?_, ?_, ?_⟩, ch_m (fun a z => by have z : a = (9, 0, 0) := z; rw [z]; exact Nat.le_of_ble_eq_true rfl) k⟩
  · simp only [v5_0, v5_1, v5_2, v5_5, n_14, n_8, inB_of, Nat.reduceLT, Prod.mk.injEq, true_and, rB, rBn, rBa, rBb, rBc, rBd, Evk_v, Evk_n, Nat.reduceAdd, Nat.reduceLeDiff, Nat.le_refl, Nat.zero_le, cz_0, cz_1, cI_1, cO_1, cz_2, cI_2, cO_2, cL_2, cD_2, cz_3, cI_3, cO_3, cL_3, cD_3, cz_4, cI_4, cO_4, cL_4, cD_4, cz_5, cI_5, cO_5, cL_5, cD_5, cz_6, cI_6, cO_6, cL_6, cD_6, cz_7, cI_7, cO_7, cL_7, cD_7, cz_8, cI_8, cO_8, cL_8, cD_8, List.mem_cons, or_true, true_or, and_self, sI_S, sL_S, sR_S, sD_S, gb_S, sI_R, sL_R, sD_R, gb_R, sI_L, sR_I, sR_L, sL_I, sD_I, sD_L, gb_I, gb_L, y_S9 hL]
  · rw [sI_I, if_neg (by simp)]; exact c4.1
  · rw [sI_I, if_pos ⟨rfl, rfl⟩]; rfl
  · rw [ch_I k (by simp), ch_I k (by simp), ch_I k (by simp)]
    exact c4.2.2
theorem m10 (hL : Lay L xs h) (c : CI h P H X) (ho : hO H < 7) (hc : hC H ≤ 6) (h0 : 0 < hC H) (hw : wn (hR H ((hO H + (hC H - 1)) % 7)) ≤ 8) : ∃ h', Ev (d + 4) 10 0 [some (vR (9, 0, 0)), some (vR (2, 0, 0))] [] h = some (.inl none, h') ∧ CI h' (hR H ((hO H + (hC H - 1)) % 7)) (hR H, hO H, hC H - 1) X ∧ Chg inC h h' := by
  obtain ⟨c1, c2, c3, c4⟩ := c
  have hl : ¬ iN (hC H) ≤ 0 := nle (k := 0) h0 (by omega)
  have e1 : iN (hC H) - 1 = iN (hC H - 1) := iN_sub (b := 1) h0
  have k : Chg (fun a => a = (9, 0, 0)) h (sI h (9, 0, 0) 2 (iN (hC H - 1))) := ch_sI rfl
  have kC : Chg inC h (sI h (9, 0, 0) 2 (iN (hC H - 1))) := ch_m (fun a z => by have z : a = (9, 0, 0) := z; rw [z]; exact Nat.le_of_ble_eq_true rfl) k
  have hL1 := Lay_C hL kC
  have cc : CI (sI h (9, 0, 0) 2 (iN (hC H - 1))) P (hR H, hO H, hC H - 1) X := by
    refine ⟨Cls_ch c1 k (fun a h1 h2 h3 z => by have z : a = (9, 0, 0) := z; rw [z] at h3; simp at h3), Cls_ch c2 k (fun a h1 h2 h3 z => by have z : a = (9, 0, 0) := z; rw [z] at h3; simp at h3), fun m hm => Cls_ch (c3 m hm) k (fun a h1 h2 h3 z => by have z : a = (9, 0, 0) := z; rw [z] at h3; simp at h3), ?_, ?_, ?_⟩
    · rw [sI_I, if_neg (by simp)]; exact c4.1
    · rw [sI_I, if_pos ⟨rfl, rfl⟩]
    · rw [ch_I k (by simp), ch_I k (by simp), ch_I k (by simp)]
      exact c4.2.2
  obtain ⟨h', e, k2, q2⟩ := m9 (d := d) hL1 cc ho (show hC H - 1 ≤ 6 by omega) hw
  refine ⟨h', ?_, k2, ch_t kC q2⟩
  simp only [v10_0, v10_1, v10_4, v10_7, v10_8, v10_9, v10_12, v10_13, v10_14, v10_17, v10_18, v10_19, v10_22, n_14, n_8, inB_of, Nat.reduceLT, Prod.mk.injEq, true_and, rB, rBn, rBa, rBb, rBc, rBd, Evk_v, Evk_n, Nat.reduceAdd, Nat.reduceLeDiff, Nat.le_refl, Nat.zero_le, cz_0, cz_1, cI_1, cO_1, cz_2, cI_2, cO_2, cL_2, cD_2, cz_3, cI_3, cO_3, cL_3, cD_3, cz_4, cI_4, cO_4, cL_4, cD_4, cz_5, cI_5, cO_5, cL_5, cD_5, cz_6, cI_6, cO_6, cL_6, cD_6, cz_7, cI_7, cO_7, cL_7, cD_7, cz_8, cI_8, cO_8, cL_8, cD_8, List.mem_cons, or_true, true_or, and_self, sI_S, sL_S, sR_S, sD_S, gb_S, sI_R, sL_R, sD_R, gb_R, sI_L, sR_I, sR_L, sL_I, sD_I, sD_L, gb_I, gb_L, y_S9 hL, c4.2.1, if_neg hl, e1, e, c1_It, c1_Ot, bI_T, bI_F, i10, i01]
end Inv
