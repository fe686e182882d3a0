/-! READ: the text, as the model takes it -/



/-- a digit stands at the place -/
abbrev dg (s : Nat → Nat) (l i : Nat) : Prop := i < l ∧ 48 ≤ s i ∧ s i ≤ 57
def sg (s : Nat → Nat) (l i : Nat) : Int32 := if i < l then iN (s i) else -1
def RA (s : Nat → Nat) (l : Nat) (t : IS) (i : Nat) : Nat × Option IS := rn s (l - i) t i
def inTx (a : A3) : Prop := a = (20, 0, 0) ∨ a = (21, 17, 0) ∨ a = (21, 18, 0)
theorem inTx_M : ∀ a, inTx a → inM a := fun a z => by
  rcases z with z | z | z <;> rw [z]
  · exact Or.inl rfl
  · exact Or.inr rfl
  · exact Or.inr rfl
/-- the model at place i, e entries done -/
def MT (s : Nat → Nat) (l : Nat) (g0 g : Hp) (i e : Nat) : Prop := Chg inTx g0 g ∧ (∀ m, m ≠ 27 → m ≠ 28 → gI g (20, 0, 0) m = gI g0 (20, 0, 0) m) ∧ gI g (20, 0, 0) 27 = iN i ∧ gI g (20, 0, 0) 28 = iN e ∧ gI g (20, 0, 0) 26 = iN l ∧ ∀ j, j < l → gI g (21, 16, 0) j = iN (s j)
/-- an entry w open, n of its numbers taken -/
def PE (n w : Nat) (g : Hp) (x : Nat → Int32) (e : Nat) : Prop := x (e * 5) = iN w ∧ gI g (21, 17, 0) e = iN w ∧ (∀ q, q < n → gI g (21, 18, 0) (4 * e + q) = x (e * 5 + 1 + q)) ∧ ∀ q, n ≤ q → q < 4 → x (e * 5 + 1 + q) = 0
def Kep (e : Nat) (g g' : Hp) (x x' : Nat → Int32) : Prop := (∀ k, k < e → gI g' (21, 17, 0) k = gI g (21, 17, 0) k) ∧ (∀ k, k < 4 * e → gI g' (21, 18, 0) k = gI g (21, 18, 0) k) ∧ ∀ j, j < e * 5 → x' j = x j
/-- entry k of the model is that of the class -/
def En (g : Hp) (x : Nat → Int32) (k : Nat) : Prop := (x (k * 5) = 100 ∨ x (k * 5) = 106 ∨ x (k * 5) = 108 ∨ x (k * 5) = 110 ∨ x (k * 5) = 112) ∧ gI g (21, 17, 0) k = x (k * 5) ∧ gI g (21, 18, 0) (4 * k) = x (k * 5 + 1) ∧ (x (k * 5) ≠ 110 → x (k * 5) ≠ 100 → gI g (21, 18, 0) (4 * k + 1) = x (k * 5 + 2)) ∧ (x (k * 5) = 112 → gI g (21, 18, 0) (4 * k + 2) = x (k * 5 + 3)) ∧ (x (k * 5) = 112 → gI g (21, 18, 0) (4 * k + 3) = x (k * 5 + 4))
/-- behind the digits of a slot: form f, its mark at a, slot c, entry e, cells x -/
def Aft (s : Nat → Nat) (l : Nat) (t : IS) (i f a c e : Nat) (x : Nat → Int32) : Prop := t.1 = f ∧ fS f t.2.1 = a ∧ t.2.2.1 = c ∧ t.2.2.2.1 = e ∧ t.2.2.2.2 = x ∧ fC f t.2.1 ≠ 48 ∧ (fC f t.2.1 = 57 → ¬ dg s l i)
/-- a slot of up to mm digits begins at a in the form f -/
def Fm (f a mm : Nat) : Prop := f ≠ 0 ∧ fC f a = 48 ∧ (∀ n, n < mm → 1 ≤ n → fC f (a + n) = 57) ∧ (∀ n, n < mm + 1 → 1 ≤ n → fS f (a + n) = a + mm) ∧ fC f (a + mm) ≠ 48 ∧ fC f (a + mm) ≠ 57 ∧ 1 ≤ mm ∧ mm ≤ 3
def dv (s : Nat → Nat) (i : Nat) : Nat → Nat
  | 0 => 0
  | n + 1 => dv s i n * 10 + (s (i + n) - 48)
def xn (s : Nat → Nat) (i c : Nat) (x : Nat → Int32) (n : Nat) : Nat → Int32 := fun j => if j = c then iN (dv s i n) else x j
section R6
variable {L : Nat} {xs : Nat → Int32} {h h' g0 g g1 gs : Hp} {t t' : IS} {d i e l n p w c a f mm i0 : Nat} {s : Nat → Nat} {x xb x' : Nat → Int32}
theorem RA_l : RA s l t l = (l, some t) := by
  unfold RA
  rw [Nat.sub_self]
  rfl
theorem RA_n (hi : i < l) (e : acc t (s i) = none) : RA s l t i = (i, none) := by
  unfold RA
  rw [show l - i = (l - i - 1) + 1 by omega, rn_n e]
theorem RA_s (hi : i < l) (e : acc t (s i) = some t') : RA s l t i = RA s l t' (i + 1) := by
  unfold RA
  rw [show l - i = (l - i - 1) + 1 by omega, rn_s e, show l - (i + 1) = l - i - 1 by omega]
theorem rd_n {i : Nat} : rdC (i, none) = iN i := rfl
theorem rd_o {i : Nat} (z : t.1 ≠ 0) : rdC (i, some t) = iN i := if_neg fun q => z q.1
theorem MT_L (hL : Lay L xs g0) (m : MT s l g0 g i e) : Lay L xs g := Lay_M hL (ch_m inTx_M m.1)
theorem MT_27 {k : Nat} (m : MT s l g0 g i e) : MT s l g0 (sI g (20, 0, 0) 27 (iN k)) k e := by
  obtain ⟨m1, m2, m3, m4, m5, m6⟩ := m
  refine ⟨ch_t m1 (ch_sI (Or.inl rfl)), fun m a b => ?_, ?_, ?_, ?_, fun j hj => ?_⟩
  · rw [sI_I, if_neg fun z => a z.2]; exact m2 m a b
  · rw [sI_I, if_pos ⟨rfl, rfl⟩]
  · rw [sI_I, if_neg (by simp)]; exact m4
  · rw [sI_I, if_neg (by simp)]; exact m5
  · rw [sI_I, if_neg (by simp)]; exact m6 j hj
theorem MT_28 {k : Nat} (m : MT s l g0 g i e) : MT s l g0 (sI g (20, 0, 0) 28 (iN k)) i k := by
  obtain ⟨m1, m2, m3, m4, m5, m6⟩ := m
  refine ⟨ch_t m1 (ch_sI (Or.inl rfl)), fun m a b => ?_, ?_, ?_, ?_, fun j hj => ?_⟩
  · rw [sI_I, if_neg fun z => b z.2]; exact m2 m a b
  · rw [sI_I, if_neg (by simp)]; exact m3
  · rw [sI_I, if_pos ⟨rfl, rfl⟩]
  · rw [sI_I, if_neg (by simp)]; exact m5
  · rw [sI_I, if_neg (by simp)]; exact m6 j hj
theorem MT_a {q k : Nat} {v : Int32} (m : MT s l g0 g i e) (hq : q = 17 ∨ q = 18) : MT s l g0 (sI g (21, q, 0) k v) i e := by
  obtain ⟨m1, m2, m3, m4, m5, m6⟩ := m
  have hA : inTx (21, q, 0) := by
    rcases hq with rfl | rfl
    · exact Or.inr (Or.inl rfl)
    · exact Or.inr (Or.inr rfl)
  refine ⟨ch_t m1 (ch_sI hA), fun m a b => ?_, ?_, ?_, ?_, fun j hj => ?_⟩
  · rw [sI_I, if_neg (by simp)]; exact m2 m a b
  · rw [sI_I, if_neg (by simp)]; exact m3
  · rw [sI_I, if_neg (by simp)]; exact m4
  · rw [sI_I, if_neg (by simp)]; exact m5
  · rw [sI_I, if_neg (fun z => by have := z.1; simp at this; omega)]; exact m6 j hj
theorem PE_27 {v : Int32} (pe : PE n w g x e) : PE n w (sI g (20, 0, 0) 27 v) x e := by
  obtain ⟨a1, a2, a3, a4⟩ := pe
  refine ⟨a1, ?_, fun q hq => ?_, a4⟩
  · rw [sI_I, if_neg (by simp)]; exact a2
  · rw [sI_I, if_neg (by simp)]; exact a3 q hq
theorem Kep_27 {k : Nat} {v : Int32} (kp : Kep e gs g xb x) : Kep e gs (sI g (20, 0, 0) k v) xb x := by
  obtain ⟨a1, a2, a3⟩ := kp
  refine ⟨fun k hk => ?_, fun k hk => ?_, a3⟩
  · rw [sI_I, if_neg (by simp)]; exact a1 k hk
  · rw [sI_I, if_neg (by simp)]; exact a2 k hk
/-! the sign -/
theorem m218 (hL : Lay L xs g) (m : MT s l g0 g i e) (hl : l ≤ 60) (hi : i ≤ l) : Ev d 218 0 [some (vR (20, 0, 0))] [] g = some (.inl (some (vI (sg s l i))), g) := by
  obtain ⟨m1, m2, m3, m4, m5, m6⟩ := m
  unfold sg
  by_cases y : i < l
  · have hnl : ¬ iN l ≤ iN i := nle y (by omega)
    have hin : inB (iN i) 60 := inB_of (by omega) (by decide)
    have hto : (iN i).toNatClampNeg = i := n_i (by omega)
    rw [if_pos y]
    simp only [v218_0, v218_1, v218_4, v218_5, v218_8, v218_11, v218_12, v218_15, v218_16, v218_19, v218_20, v218_23, v218_24, n_14, n_8, inB_of, Nat.reduceLT, Prod.mk.injEq, true_and, rB, rBn, rBa, rBb, rBc, rBd, Evk_v, Evk_n, Nat.reduceAdd, Nat.reduceLeDiff, Nat.le_refl, Nat.zero_le, cz_0, cz_1, cI_1, cO_1, cz_2, cI_2, cO_2, cL_2, cD_2, cz_3, cI_3, cO_3, cL_3, cD_3, cz_4, cI_4, cO_4, cL_4, cD_4, cz_5, cI_5, cO_5, cL_5, cD_5, cz_6, cI_6, cO_6, cL_6, cD_6, cz_7, cI_7, cO_7, cL_7, cD_7, cz_8, cI_8, cO_8, cL_8, cD_8, List.mem_cons, or_true, true_or, and_self, sI_S, sL_S, sR_S, sD_S, gb_S, sI_R, sL_R, sD_R, gb_R, sI_L, sR_I, sR_L, sL_I, sD_I, sD_L, gb_I, gb_L, y_S20 hL, y_F_input hL, y_M_input hL, m3, m5, if_neg hnl, hin, hto, m6 i y]
  · have hle : iN l ≤ iN i := ile (by omega) (by omega)
    rw [if_neg y]
    simp only [v218_0, v218_1, v218_4, v218_5, v218_8, v218_11, v218_12, v218_15, v218_16, v218_19, v218_20, v218_23, v218_24, n_14, n_8, inB_of, Nat.reduceLT, Prod.mk.injEq, true_and, rB, rBn, rBa, rBb, rBc, rBd, Evk_v, Evk_n, Nat.reduceAdd, Nat.reduceLeDiff, Nat.le_refl, Nat.zero_le, cz_0, cz_1, cI_1, cO_1, cz_2, cI_2, cO_2, cL_2, cD_2, cz_3, cI_3, cO_3, cL_3, cD_3, cz_4, cI_4, cO_4, cL_4, cD_4, cz_5, cI_5, cO_5, cL_5, cD_5, cz_6, cI_6, cO_6, cL_6, cD_6, cz_7, cI_7, cO_7, cL_7, cD_7, cz_8, cI_8, cO_8, cL_8, cD_8, List.mem_cons, or_true, true_or, and_self, sI_S, sL_S, sR_S, sD_S, gb_S, sI_R, sL_R, sD_R, gb_R, sI_L, sR_I, sR_L, sL_I, sD_I, sD_L, gb_I, gb_L, y_S20 hL, m3, m5, if_pos hle]
theorem sg_c {cc : Int32} (hl : l ≤ 60) (hs : ∀ j, j < l → s j < 127) (hc : c < 127) (ec : cc = iN c) : (sg s l i = cc) = (i < l ∧ s i = c) := by
  subst ec
  unfold sg
  by_cases y : i < l
  · rw [if_pos y, iN_inj (by have := hs i y; omega) (by omega)]
    exact propext ⟨fun z => ⟨y, z⟩, fun z => z.2⟩
  · rw [if_neg y]
    exact propext ⟨fun z => absurd z.symm (oN_ne (by omega)), fun z => absurd z.1 y⟩
theorem sg_d (hl : l ≤ 60) (hs : ∀ j, j < l → s j < 127) : (48 ≤ sg s l i ∧ sg s l i ≤ 57) = dg s l i := by
  unfold sg
  by_cases y : i < l
  · have h1 := hs i y
    have e1 : ((48 : Int32) ≤ iN (s i)) = (48 ≤ s i) := iN_le (a := 48) (by decide) (by omega)
    have e2 : (iN (s i) ≤ (57 : Int32)) = (s i ≤ 57) := iN_le (b := 57) (by omega) (by decide)
    rw [if_pos y, e1, e2]
    exact propext ⟨fun z => ⟨y, z.1, z.2⟩, fun z => z.2⟩
  · rw [if_neg y]
    exact propext ⟨fun z => absurd z.1 (by decide), fun z => absurd z.1 y⟩
theorem m219y (hL : Lay L xs g) (m : MT s l g0 g i e) (hl : l ≤ 60) (hs : ∀ j, j < l → s j < 127) (hi : i ≤ l) {cc : Int32} (hc : c < 127) (ec : cc = iN c) (y : i < l ∧ s i = c) : Ev (d + 1) 219 0 [some (vR (20, 0, 0)), some (vI cc)] [] g = some (.inl (some (vI (1))), sI g (20, 0, 0) 27 (iN (i + 1))) := by
  have e1 := sg_c (i := i) hl hs hc ec
  have e2 : sg s l i = cc := by rw [e1]; exact y
  simp only [v219_0, v219_1, v219_4, v219_5, v219_8, v219_9, v219_10, v219_11, v219_12, v219_15, v219_16, v219_17, v219_20, v219_21, n_14, n_8, inB_of, Nat.reduceLT, Prod.mk.injEq, true_and, rB, rBn, rBa, rBb, rBc, rBd, Evk_v, Evk_n, Nat.reduceAdd, Nat.reduceLeDiff, Nat.le_refl, Nat.zero_le, cz_0, cz_1, cI_1, cO_1, cz_2, cI_2, cO_2, cL_2, cD_2, cz_3, cI_3, cO_3, cL_3, cD_3, cz_4, cI_4, cO_4, cL_4, cD_4, cz_5, cI_5, cO_5, cL_5, cD_5, cz_6, cI_6, cO_6, cL_6, cD_6, cz_7, cI_7, cO_7, cL_7, cD_7, cz_8, cI_8, cO_8, cL_8, cD_8, List.mem_cons, or_true, true_or, and_self, sI_S, sL_S, sR_S, sD_S, gb_S, sI_R, sL_R, sD_R, gb_R, sI_L, sR_I, sR_L, sL_I, sD_I, sD_L, gb_I, gb_L, y_S20 hL, m218 hL m hl hi, if_pos e2, m.2.2.1, iN_s, c1_It, c1_Ot, bI_T, bI_F, i10, i01]
theorem m219n (hL : Lay L xs g) (m : MT s l g0 g i e) (hl : l ≤ 60) (hs : ∀ j, j < l → s j < 127) (hi : i ≤ l) {cc : Int32} (hc : c < 127) (ec : cc = iN c) (y : ¬ (i < l ∧ s i = c)) : Ev (d + 1) 219 0 [some (vR (20, 0, 0)), some (vI cc)] [] g = some (.inl (some (vI (0))), g) := by
  have e1 := sg_c (i := i) hl hs hc ec
  have e2 : ¬ sg s l i = cc := by rw [e1]; exact y
  simp only [v219_0, v219_1, v219_4, v219_5, v219_8, v219_9, v219_10, v219_11, v219_12, v219_15, v219_16, v219_17, v219_20, v219_21, n_14, n_8, inB_of, Nat.reduceLT, Prod.mk.injEq, true_and, rB, rBn, rBa, rBb, rBc, rBd, Evk_v, Evk_n, Nat.reduceAdd, Nat.reduceLeDiff, Nat.le_refl, Nat.zero_le, cz_0, cz_1, cI_1, cO_1, cz_2, cI_2, cO_2, cL_2, cD_2, cz_3, cI_3, cO_3, cL_3, cD_3, cz_4, cI_4, cO_4, cL_4, cD_4, cz_5, cI_5, cO_5, cL_5, cD_5, cz_6, cI_6, cO_6, cL_6, cD_6, cz_7, cI_7, cO_7, cL_7, cD_7, cz_8, cI_8, cO_8, cL_8, cD_8, List.mem_cons, or_true, true_or, and_self, sI_S, sL_S, sR_S, sD_S, gb_S, sI_R, sL_R, sD_R, gb_R, sI_L, sR_I, sR_L, sL_I, sD_I, sD_L, gb_I, gb_L, y_S20 hL, m218 hL m hl hi, if_neg e2]
/-! the automaton's side -/
theorem sk_ok (A : Aft s l t i f a c e x) (hf : f ≠ 0) {ch : Nat} (hc : fC f a = ch) (hd : ¬ (48 ≤ ch ∧ ch ≤ 57)) (y : i < l ∧ s i = ch) : RA s l t i = RA s l (if a + 1 = fN f then (0, a + 1, c + 1, e + 1, x) else (f, a + 1, c + 1, e, x)) (i + 1) := by
  obtain ⟨a1, a2, a3, a4, a5, a6, a7⟩ := A
  subst a1; subst a2; subst a3; subst a4; subst a5
  refine RA_s y.1 ?_
  unfold acc
  rw [if_neg hf, y.2, if_neg hd, if_pos hc]
  rfl
theorem sk_no (A : Aft s l t i f a c e x) (hf : f ≠ 0) {ch : Nat} (hc : fC f a = ch) (hi : i ≤ l) (y : ¬ (i < l ∧ s i = ch)) : rdC (RA s l t i) = iN i := by
  obtain ⟨a1, a2, a3, a4, a5, a6, a7⟩ := A
  subst a1; subst a2
  by_cases z : i < l
  · rw [RA_n z]
    · rfl
    · unfold acc
      rw [if_neg hf]
      by_cases q : 48 ≤ s i ∧ s i ≤ 57
      · rw [if_pos q, if_neg]
        rintro (r | r)
        · exact a6 r
        · exact a7 r ⟨z, q⟩
      · rw [if_neg q, if_neg]
        rw [hc]
        exact fun r => y ⟨z, r.symm⟩
  · have : i = l := by omega
    subst this
    rw [RA_l, rd_o hf]
theorem td_0 {s : Nat → Nat} (F : Fm f a mm) (hi : i ≤ l) (y : ¬ dg s l i) : rdC (RA s l (f, a, c, e, x) i) = iN i := by
  obtain ⟨f0, f1, f2, f3, f4, f5, f6, f7⟩ := F
  by_cases z : i < l
  · rw [RA_n z]
    · rfl
    · have es : fS f a = a := if_neg (by rw [f1]; decide)
      unfold acc
      show (if f = 0 then _ else if 48 ≤ s i ∧ s i ≤ 57 then _ else if fC f (fS f a) = s i then _ else none) = none
      rw [if_neg f0, if_neg fun q => y ⟨z, q⟩, if_neg]
      rw [es, f1]
      exact fun r => y ⟨z, by omega, by omega⟩
  · have : i = l := by omega
    subst this
    rw [RA_l, rd_o (show (f, a, c, e, x).1 ≠ 0 from f0)]
theorem td_s {s : Nat → Nat} (f0 : f ≠ 0) (h : fC f (a + n) = 48 ∨ fC f (a + n) = 57) (y : dg s l (i + n)) : RA s l (f, a + n, p + 1, e, xn s i (e * 5 + (p + 1)) x n) (i + n) = RA s l (f, a + (n + 1), p + 1, e, xn s i (e * 5 + (p + 1)) x (n + 1)) (i + (n + 1)) := by
  refine (RA_s y.1 ?_)
  unfold acc
  show (if f = 0 then _ else if 48 ≤ s (i + n) ∧ s (i + n) ≤ 57 then if fC f (a + n) = 48 ∨ fC f (a + n) = 57 then some (dgt _ (s (i + n))) else none else _) = _
  rw [if_neg f0, if_pos y.2, if_pos h]
  congr 1
  unfold dgt
  refine Prod.ext rfl (Prod.ext rfl (Prod.ext rfl (Prod.ext rfl (funext fun j => ?_))))
  show (if j = e * 5 + (p + 1) then xn s i (e * 5 + (p + 1)) x n j * 10 + iN (s (i + n) - 48) else xn s i (e * 5 + (p + 1)) x n j) = xn s i (e * 5 + (p + 1)) x (n + 1) j
  unfold xn
  by_cases w : j = e * 5 + (p + 1)
  · rw [if_pos w, if_pos w, if_pos w]
    show iN (dv s i n) * iN 10 + iN (s (i + n) - 48) = iN (dv s i n * 10 + (s (i + n) - 48))
    rw [iN_mul, iN_add]
  · rw [if_neg w, if_neg w, if_neg w]
/-- the digits of a slot -/
theorem tdL (hl : l ≤ 60) (hs : ∀ j, j < l → s j < 127) (F : Fm f a mm) : ∀ r n g, n + r = mm → Lay L xs g → MT s l g0 g (i + n) e → i + n ≤ l → ∃ n' g', n ≤ n' ∧ n' ≤ mm ∧ (n' = mm ∨ ¬ dg s l (i + n')) ∧ (dg s l (i + n) → n < mm → n < n') ∧ RA s l (f, a + n, p + 1, e, xn s i (e * 5 + (p + 1)) x n) (i + n) = RA s l (f, a + n', p + 1, e, xn s i (e * 5 + (p + 1)) x n') (i + n') ∧ i + n' ≤ l ∧ MT s l g0 g' (i + n') e ∧ Lay L xs g' ∧ gI g' (21, 17, 0) = gI g (21, 17, 0) ∧ gI g' (21, 18, 0) = gI g (21, 18, 0) ∧ Ev (d + 1) 220 21 [some (vR (20, 0, 0)), some (vI (iN p)), some (vI (iN mm)), some (vI (iN (dv s i n))), some (vI (iN n))] [] g = Ev (d + 1) 220 70 [some (vR (20, 0, 0)), some (vI (iN p)), some (vI (iN mm)), some (vI (iN (dv s i n'))), some (vI (iN n'))] [] g' := by
  obtain ⟨f0, f1, f2, f3, f4, f5, f6, f7⟩ := F
  intro r
  induction r with
  | zero =>
    intro n g hn hL m hi
    have hn : n = mm := by omega
    subst hn
    have hle : iN n ≤ iN n := Int32.le_refl _
    refine ⟨n, g, Nat.le_refl _, Nat.le_refl _, Or.inl rfl, fun _ z => absurd z (Nat.lt_irrefl _), rfl, hi, m, hL, rfl, rfl, ?_⟩
    rw [v220_21]
    simp only [v220_23, v220_24, n_14, n_8, inB_of, Nat.reduceLT, Prod.mk.injEq, true_and, rB, rBn, rBa, rBb, rBc, rBd, Evk_v, Evk_n, Nat.reduceAdd, Nat.reduceLeDiff, Nat.le_refl, Nat.zero_le, cz_0, cz_1, cI_1, cO_1, cz_2, cI_2, cO_2, cL_2, cD_2, cz_3, cI_3, cO_3, cL_3, cD_3, cz_4, cI_4, cO_4, cL_4, cD_4, cz_5, cI_5, cO_5, cL_5, cD_5, cz_6, cI_6, cO_6, cL_6, cD_6, cz_7, cI_7, cO_7, cL_7, cD_7, cz_8, cI_8, cO_8, cL_8, cD_8, List.mem_cons, or_true, true_or, and_self, sI_S, sL_S, sR_S, sD_S, gb_S, sI_R, sL_R, sD_R, gb_R, sI_L, sR_I, sR_L, sL_I, sD_I, sD_L, gb_I, gb_L, if_pos hle]
  | succ r hr =>
    intro n g hn hL m hi
    have hnl : ¬ iN mm ≤ iN n := nle (by omega) (by omega)
    have e218 := fun d => m218 (d := d) hL m hl hi
    by_cases y : dg s l (i + n)
    · have yy : 48 ≤ sg s l (i + n) ∧ sg s l (i + n) ≤ 57 := by rw [sg_d hl hs]; exact y
      have hc : fC f (a + n) = 48 ∨ fC f (a + n) = 57 := by
        by_cases z : n = 0
        · subst z; exact Or.inl f1
        · exact Or.inr (f2 n (by omega) (by omega))
      have m' := MT_27 (k := i + (n + 1)) m
      have hL' : Lay L xs (sI g (20, 0, 0) 27 (iN (i + (n + 1)))) := Lay_sI hL (by decide)
      obtain ⟨n', g', q1, q2, q3, q4, q5, q6, q7, q8, q9, q10, q11⟩ := hr (n + 1) _ (by omega) hL' m' (by have := y.1; omega)
      have eg : 10 * iN (dv s i n) + sg s l (i + n) - 48 = iN (dv s i (n + 1)) := by
        unfold sg
        rw [if_pos y.1]
        show iN 10 * iN (dv s i n) + iN (s (i + n)) - iN 48 = iN (dv s i n * 10 + (s (i + n) - 48))
        have := y.2.1
        rw [iN_mul, iN_add, iN_sub (by omega)]
        congr 1; omega
      have ei : iN (i + n) + 1 = iN (i + (n + 1)) := iN_s _
      refine ⟨n', g', by omega, q2, q3, fun _ _ => by omega, (td_s f0 hc y).trans q5, q6, q7, q8, q9.trans ?_, q10.trans ?_, Eq.trans ?_ q11⟩
      · funext j
        rw [sI_I, if_neg (by simp)]
      · funext j
        rw [sI_I, if_neg (by simp)]
      · rw [v220_21]
        simp only [v220_23, v220_24, v220_27, v220_28, v220_31, v220_33, v220_35, v220_38, v220_41, v220_43, v220_44, v220_45, v220_46, v220_49, v220_50, v220_52, v220_53, v220_54, v220_55, v220_56, v220_59, v220_60, v220_61, v220_64, v220_67, n_14, n_8, inB_of, Nat.reduceLT, Prod.mk.injEq, true_and, rB, rBn, rBa, rBb, rBc, rBd, Evk_v, Evk_n, Nat.reduceAdd, Nat.reduceLeDiff, Nat.le_refl, Nat.zero_le, cz_0, cz_1, cI_1, cO_1, cz_2, cI_2, cO_2, cL_2, cD_2, cz_3, cI_3, cO_3, cL_3, cD_3, cz_4, cI_4, cO_4, cL_4, cD_4, cz_5, cI_5, cO_5, cL_5, cD_5, cz_6, cI_6, cO_6, cL_6, cD_6, cz_7, cI_7, cO_7, cL_7, cD_7, cz_8, cI_8, cO_8, cL_8, cD_8, List.mem_cons, or_true, true_or, and_self, sI_S, sL_S, sR_S, sD_S, gb_S, sI_R, sL_R, sD_R, gb_R, sI_L, sR_I, sR_L, sL_I, sD_I, sD_L, gb_I, gb_L, y_S20 hL, if_neg hnl, e218, m143, bI_0, if_neg (not_not_intro yy), eg, m.2.2.1, ei, iN_s, c1_It, c1_Ot, bI_T, bI_F, i10, i01]
    · have yy : ¬ (48 ≤ sg s l (i + n) ∧ sg s l (i + n) ≤ 57) := by rw [sg_d hl hs]; exact y
      refine ⟨n, g, Nat.le_refl _, by omega, Or.inr y, fun z => absurd z y, rfl, hi, m, hL, rfl, rfl, ?_⟩
      rw [v220_21]
      simp only [v220_23, v220_24, v220_27, v220_28, v220_31, v220_33, v220_35, v220_38, v220_41, v220_43, v220_44, v220_45, v220_46, v220_49, v220_50, v220_52, v220_53, v220_54, v220_55, v220_56, v220_59, v220_60, v220_61, v220_64, v220_67, n_14, n_8, inB_of, Nat.reduceLT, Prod.mk.injEq, true_and, rB, rBn, rBa, rBb, rBc, rBd, Evk_v, Evk_n, Nat.reduceAdd, Nat.reduceLeDiff, Nat.le_refl, Nat.zero_le, cz_0, cz_1, cI_1, cO_1, cz_2, cI_2, cO_2, cL_2, cD_2, cz_3, cI_3, cO_3, cL_3, cD_3, cz_4, cI_4, cO_4, cL_4, cD_4, cz_5, cI_5, cO_5, cL_5, cD_5, cz_6, cI_6, cO_6, cL_6, cD_6, cz_7, cI_7, cO_7, cL_7, cD_7, cz_8, cI_8, cO_8, cL_8, cD_8, List.mem_cons, or_true, true_or, and_self, sI_S, sL_S, sR_S, sD_S, gb_S, sI_R, sL_R, sD_R, gb_R, sI_L, sR_I, sR_L, sL_I, sD_I, sD_L, gb_I, gb_L, y_S20 hL, if_neg hnl, e218, m143, bI_0, if_pos yy]
theorem tdS (hL : Lay L xs g) (hl : l ≤ 60) (hs : ∀ j, j < l → s j < 127) (he : e < 20) (m : MT s l g0 g i e) (pe : PE p w g x e) (kp : Kep e gs g xb x) (hi : i ≤ l) (hp : p < 4) (F : Fm f a mm) :
    (Ev (d + 1) 220 0 [some (vR (20, 0, 0)), some (vI (iN p)), some (vI (iN mm)), none, none] [] g = some (.inl (some (vI (0))), g) ∧ rdC (RA s l (f, a, p + 1, e, x) i) = iN i) ∨ ∃ g' t' i' x', Ev (d + 1) 220 0 [some (vR (20, 0, 0)), some (vI (iN p)), some (vI (iN mm)), none, none] [] g = some (.inl (some (vI (1))), g') ∧ Lay L xs g' ∧ MT s l g0 g' i' e ∧ PE (p + 1) w g' x' e ∧ Kep e gs g' xb x' ∧ i < i' ∧ i' ≤ l ∧ RA s l (f, a, p + 1, e, x) i = RA s l t' i' ∧ Aft s l t' i' f (a + mm) (p + 1) e x' := by
  obtain ⟨f0, f1, f2, f3, f4, f5, f6, f7⟩ := id F
  have e218 := fun d => m218 (d := d) hL m hl hi
  by_cases y : dg s l i
  · right
    have yy : 48 ≤ sg s l i ∧ sg s l i ≤ 57 := by rw [sg_d hl hs]; exact y
    have x0 : x (e * 5 + (p + 1)) = 0 := by
      have := pe.2.2.2 p (Nat.le_refl _) hp
      rwa [show e * 5 + 1 + p = e * 5 + (p + 1) by omega] at this
    have ex : xn s i (e * 5 + (p + 1)) x 0 = x := funext fun j => by
      unfold xn
      by_cases q : j = e * 5 + (p + 1)
      · rw [if_pos q, q, x0]; rfl
      · rw [if_neg q]
    obtain ⟨n', g', q1, q2, q3, q4, q5, q6, q7, q8, q9, q10, q11⟩ := tdL (L := L) (xs := xs) (d := d) (p := p) (x := x) (i := i) hl hs F mm 0 g (by omega) hL m hi
    have q4 := q4 y (by omega)
    rw [ex] at q5
    have q5 : RA s l (f, a, p + 1, e, x) i = _ := q5
    have qe : (4 : Int32) * iN e + iN p = iN (4 * e + p) := by
      show iN 4 * iN e + iN p = _
      rw [iN_mul, iN_add]
    have hin : inB (iN (4 * e + p)) 80 := inB_of (by omega) (by decide)
    have hto : (iN (4 * e + p)).toNatClampNeg = 4 * e + p := n_i (by omega)
    have ea : fS f (a + n') = a + mm := f3 n' (by omega) (by omega)
    have a18 : ∀ k, gI (sI g' (21, 18, 0) (4 * e + p) (iN (dv s i n'))) (21, 18, 0) k = if k = 4 * e + p then iN (dv s i n') else gI g (21, 18, 0) k := fun k => by
      rw [sI_I]
      by_cases z : k = 4 * e + p
      · rw [if_pos ⟨rfl, z⟩, if_pos z]
      · rw [if_neg fun q => z q.2, if_neg z, q10]
    have a17 : ∀ k, gI (sI g' (21, 18, 0) (4 * e + p) (iN (dv s i n'))) (21, 17, 0) k = gI g (21, 17, 0) k := fun k => by
      rw [sI_I, if_neg (by simp), q9]
    obtain ⟨p1, p2, p3, p4⟩ := pe
    obtain ⟨k1, k2, k3⟩ := kp
    refine ⟨sI g' (21, 18, 0) (4 * e + p) (iN (dv s i n')), _, i + n', xn s i (e * 5 + (p + 1)) x n', ?_, Lay_sI q8 (by decide), MT_a q7 (Or.inr rfl), ⟨?_, ?_, fun q hq => ?_, fun q h1 h2 => ?_⟩, ⟨fun k hk => ?_, fun k hk => ?_, fun j hj => ?_⟩, by omega, q6, q5, rfl, ea, rfl, rfl, rfl, ?_, fun z => ?_⟩
    · have q11 : Ev (d + 1) 220 21 [some (vR (20, 0, 0)), some (vI (iN p)), some (vI (iN mm)), some (vI 0), some (vI 0)] [] g = _ := q11
      simp only [v220_0, v220_1, v220_4, v220_6, v220_8, v220_11, v220_14, v220_15, v220_16, v220_17, v220_18, v220_19, n_14, n_8, inB_of, Nat.reduceLT, Prod.mk.injEq, true_and, rB, rBn, rBa, rBb, rBc, rBd, Evk_v, Evk_n, Nat.reduceAdd, Nat.reduceLeDiff, Nat.le_refl, Nat.zero_le, cz_0, cz_1, cI_1, cO_1, cz_2, cI_2, cO_2, cL_2, cD_2, cz_3, cI_3, cO_3, cL_3, cD_3, cz_4, cI_4, cO_4, cL_4, cD_4, cz_5, cI_5, cO_5, cL_5, cD_5, cz_6, cI_6, cO_6, cL_6, cD_6, cz_7, cI_7, cO_7, cL_7, cD_7, cz_8, cI_8, cO_8, cL_8, cD_8, List.mem_cons, or_true, true_or, and_self, sI_S, sL_S, sR_S, sD_S, gb_S, sI_R, sL_R, sD_R, gb_R, sI_L, sR_I, sR_L, sL_I, sD_I, sD_L, gb_I, gb_L, y_S20 hL, e218, m143, bI_0, if_neg (not_not_intro yy)]
      refine Eq.trans q11 ?_
      simp only [v220_70, v220_71, v220_74, v220_75, v220_76, v220_79, v220_80, v220_81, v220_82, v220_83, v220_84, v220_85, n_14, n_8, inB_of, Nat.reduceLT, Prod.mk.injEq, true_and, rB, rBn, rBa, rBb, rBc, rBd, Evk_v, Evk_n, Nat.reduceAdd, Nat.reduceLeDiff, Nat.le_refl, Nat.zero_le, cz_0, cz_1, cI_1, cO_1, cz_2, cI_2, cO_2, cL_2, cD_2, cz_3, cI_3, cO_3, cL_3, cD_3, cz_4, cI_4, cO_4, cL_4, cD_4, cz_5, cI_5, cO_5, cL_5, cD_5, cz_6, cI_6, cO_6, cL_6, cD_6, cz_7, cI_7, cO_7, cL_7, cD_7, cz_8, cI_8, cO_8, cL_8, cD_8, List.mem_cons, or_true, true_or, and_self, sI_S, sL_S, sR_S, sD_S, gb_S, sI_R, sL_R, sD_R, gb_R, sI_L, sR_I, sR_L, sL_I, sD_I, sD_L, gb_I, gb_L, y_S20 q8, y_F_numbers q8, y_M_numbers q8, q7.2.2.2.1, qe, hin, hto]
    · unfold xn; rw [if_neg (by omega)]; exact p1
    · rw [a17]; exact p2
    · rw [a18]
      unfold xn
      by_cases z : q = p
      · subst z
        rw [if_pos rfl, if_pos (by omega)]
      · rw [if_neg (by omega), if_neg (by omega)]; exact p3 q (by omega)
    · unfold xn; rw [if_neg (by omega)]; exact p4 q (by omega) h2
    · rw [a17]; exact k1 k hk
    · rw [a18, if_neg (by omega)]; exact k2 k hk
    · unfold xn; rw [if_neg (by omega)]; exact k3 j hj
    · show fC f (a + n') ≠ 48
      by_cases z : n' = mm
      · rw [z]; exact f4
      · rw [f2 n' (by omega) (by omega)]; decide
    · have z : fC f (a + n') = 57 := z
      rcases q3 with q3 | q3
      · rw [q3] at z; exact absurd z f5
      · exact q3
  · left
    have yy : ¬ (48 ≤ sg s l i ∧ sg s l i ≤ 57) := by rw [sg_d hl hs]; exact y
    refine ⟨?_, td_0 F hi y⟩
    simp only [v220_0, v220_1, v220_4, v220_6, v220_8, v220_11, v220_14, v220_15, v220_16, v220_17, v220_18, v220_19, n_14, n_8, inB_of, Nat.reduceLT, Prod.mk.injEq, true_and, rB, rBn, rBa, rBb, rBc, rBd, Evk_v, Evk_n, Nat.reduceAdd, Nat.reduceLeDiff, Nat.le_refl, Nat.zero_le, cz_0, cz_1, cI_1, cO_1, cz_2, cI_2, cO_2, cL_2, cD_2, cz_3, cI_3, cO_3, cL_3, cD_3, cz_4, cI_4, cO_4, cL_4, cD_4, cz_5, cI_5, cO_5, cL_5, cD_5, cz_6, cI_6, cO_6, cL_6, cD_6, cz_7, cI_7, cO_7, cL_7, cD_7, cz_8, cI_8, cO_8, cL_8, cD_8, List.mem_cons, or_true, true_or, and_self, sI_S, sL_S, sR_S, sD_S, gb_S, sI_R, sL_R, sD_R, gb_R, sI_L, sR_I, sR_L, sL_I, sD_I, sD_L, gb_I, gb_L, y_S20 hL, e218, m143, bI_0, if_pos yy]
theorem skS (hL : Lay L xs g) (hl : l ≤ 60) (hs : ∀ j, j < l → s j < 127) (m : MT s l g0 g i e) (pe : PE n w g x e) (kp : Kep e gs g xb x) (hi : i ≤ l) (A : Aft s l t i f a c e x) (hf : f ≠ 0) {ch : Nat} {cc : Int32} (ec : cc = iN ch) (hc : fC f a = ch) (hd : ch < 48 ∨ 57 < ch ∧ ch < 127) :
    (Ev (d + 1) 219 0 [some (vR (20, 0, 0)), some (vI cc)] [] g = some (.inl (some (vI (0))), g) ∧ rdC (RA s l t i) = iN i) ∨ ∃ g', Ev (d + 1) 219 0 [some (vR (20, 0, 0)), some (vI cc)] [] g = some (.inl (some (vI (1))), g') ∧ Lay L xs g' ∧ MT s l g0 g' (i + 1) e ∧ PE n w g' x e ∧ Kep e gs g' xb x ∧ i + 1 ≤ l ∧ RA s l t i = RA s l (if a + 1 = fN f then (0, a + 1, c + 1, e + 1, x) else (f, a + 1, c + 1, e, x)) (i + 1) := by
  by_cases y : i < l ∧ s i = ch
  · exact Or.inr ⟨_, m219y hL m hl hs hi (by omega) ec y, Lay_sI hL (by decide), MT_27 m, PE_27 pe, Kep_27 kp, y.1, sk_ok A hf hc (by omega) y⟩
  · exact Or.inl ⟨m219n hL m hl hs hi (by omega) ec y, sk_no A hf hc hi y⟩
/-! entries -/
def FnE (s : Nat → Nat) (l : Nat) (g0 gs : Hp) (xb : Nat → Int32) (i0 e : Nat) (E : Option (MO × Hp)) (Q : Nat × Option IS) : Prop := (∃ g' i', E = some (.inl (some (vI (0))), g') ∧ MT s l g0 g' i' e ∧ i' ≤ l ∧ rdC Q = iN i') ∨ ∃ g' t' i', E = some (.inl (some (vI (1))), g') ∧ MT s l g0 g' i' (e + 1) ∧ t'.1 = 0 ∧ t'.2.2.2.1 = e + 1 ∧ Q = RA s l t' i' ∧ i' ≤ l ∧ i0 + 3 ≤ i' ∧ Kep e gs g' xb t'.2.2.2.2 ∧ En g' t'.2.2.2.2 e
theorem FnE_e {E E' : Option (MO × Hp)} {Q Q' : Nat × Option IS} (h1 : E = E') (h2 : Q = Q') (F : FnE s l g0 gs xb i0 e E' Q') : FnE s l g0 gs xb i0 e E Q := by rw [h1, h2]; exact F
theorem FnE_0 {E : Option (MO × Hp)} {Q : Nat × Option IS} (hE : E = some (.inl (some (vI (0))), g)) (m : MT s l g0 g i e) (hi : i ≤ l) (hQ : rdC Q = iN i) : FnE s l g0 gs xb i0 e E Q := Or.inl ⟨g, i, hE, m, hi, hQ⟩
theorem En_of (pe : PE n w g x e) (hw : ((w = 100 ∨ w = 110) ∧ 1 ≤ n) ∨ ((w = 106 ∨ w = 108) ∧ 2 ≤ n) ∨ (w = 112 ∧ 4 ≤ n)) : En g x e := by
  obtain ⟨p1, p2, p3, p4⟩ := pe
  have b : ∀ q, q < n → gI g (21, 18, 0) (4 * e + q) = x (e * 5 + (1 + q)) := fun q hq => by
    rw [p3 q hq, Nat.add_assoc]
  rcases hw with ⟨rfl | rfl, hn⟩ | ⟨rfl | rfl, hn⟩ | ⟨rfl, hn⟩
  · exact ⟨Or.inl p1, p2.trans p1.symm, b 0 hn, fun _ z => absurd p1 z, fun z => absurd (p1.symm.trans z) (by decide), fun z => absurd (p1.symm.trans z) (by decide)⟩
  · exact ⟨Or.inr (Or.inr (Or.inr (Or.inl p1))), p2.trans p1.symm, b 0 hn, fun z => absurd p1 z, fun z => absurd (p1.symm.trans z) (by decide), fun z => absurd (p1.symm.trans z) (by decide)⟩
  · exact ⟨Or.inr (Or.inl p1), p2.trans p1.symm, b 0 (by omega), fun _ _ => b 1 (by omega), fun z => absurd (p1.symm.trans z) (by decide), fun z => absurd (p1.symm.trans z) (by decide)⟩
  · exact ⟨Or.inr (Or.inr (Or.inl p1)), p2.trans p1.symm, b 0 (by omega), fun _ _ => b 1 (by omega), fun z => absurd (p1.symm.trans z) (by decide), fun z => absurd (p1.symm.trans z) (by decide)⟩
  · exact ⟨Or.inr (Or.inr (Or.inr (Or.inr p1))), p2.trans p1.symm, b 0 (by omega), fun _ _ => b 1 (by omega), fun _ => b 2 (by omega), fun _ => b 3 (by omega)⟩
/-- an entry's end -/
theorem m221z (hL : Lay L xs g) (hl : l ≤ 60) (hs : ∀ j, j < l → s j < 127) (m : MT s l g0 g i e) (pe : PE n w g x e) (kp : Kep e gs g xb x) (hi : i ≤ l) (h3 : i0 + 2 ≤ i) (A : Aft s l t i f a c e x) (hf : f ≠ 0) (h59 : fC f a = 59) (hN : a + 1 = fN f) (hw : ((w = 100 ∨ w = 110) ∧ 1 ≤ n) ∨ ((w = 106 ∨ w = 108) ∧ 2 ≤ n) ∨ (w = 112 ∧ 4 ≤ n)) : FnE s l g0 gs xb i0 e (Ev (d + 2) 221 180 [some (vR (20, 0, 0)), some (vI (iN w))] [] g) (RA s l t i) := by
  rcases skS (d := d) hL hl hs m pe kp hi A hf (ch := 59) (cc := 59) rfl h59 (by decide) with ⟨e1, q1⟩ | ⟨g1, e1, L1, M1, P1, K1, I1, R1⟩
  · refine FnE_0 ?_ m hi q1
    simp only [v221_180, v221_181, v221_183, v221_186, v221_189, v221_190, v221_191, v221_192, v221_193, v221_196, v221_197, v221_198, v221_201, v221_202, n_14, n_8, inB_of, Nat.reduceLT, Prod.mk.injEq, true_and, rB, rBn, rBa, rBb, rBc, rBd, Evk_v, Evk_n, Nat.reduceAdd, Nat.reduceLeDiff, Nat.le_refl, Nat.zero_le, cz_0, cz_1, cI_1, cO_1, cz_2, cI_2, cO_2, cL_2, cD_2, cz_3, cI_3, cO_3, cL_3, cD_3, cz_4, cI_4, cO_4, cL_4, cD_4, cz_5, cI_5, cO_5, cL_5, cD_5, cz_6, cI_6, cO_6, cL_6, cD_6, cz_7, cI_7, cO_7, cL_7, cD_7, cz_8, cI_8, cO_8, cL_8, cD_8, List.mem_cons, or_true, true_or, and_self, sI_S, sL_S, sR_S, sD_S, gb_S, sI_R, sL_R, sD_R, gb_R, sI_L, sR_I, sR_L, sL_I, sD_I, sD_L, gb_I, gb_L, y_S20 hL, e1, if_true, if_false, not_true_eq_false, not_false_eq_true, Bool.false_eq_true, Int32.or_zero, ne_eq, Bool.and_eq_true, decide_eq_true_eq, decide_true, decide_false, and_true, true_and, and_false, false_and, Bool.and_true, Bool.true_and, Bool.and_false, Bool.false_and]
  · rw [if_pos hN] at R1
    have P2 : PE n w (sI g1 (20, 0, 0) 28 (iN (e + 1))) x e := by
      obtain ⟨p1, p2, p3, p4⟩ := P1
      refine ⟨p1, ?_, fun q hq => ?_, p4⟩
      · rw [sI_I, if_neg (by simp)]; exact p2
      · rw [sI_I, if_neg (by simp)]; exact p3 q hq
    refine Or.inr ⟨sI g1 (20, 0, 0) 28 (iN (e + 1)), _, i + 1, ?_, MT_28 M1, ?_, ?_, R1, I1, by omega, ?_, ?_⟩
    · simp only [v221_180, v221_181, v221_183, v221_186, v221_189, v221_190, v221_191, v221_192, v221_193, v221_196, v221_197, v221_198, v221_201, v221_202, n_14, n_8, inB_of, Nat.reduceLT, Prod.mk.injEq, true_and, rB, rBn, rBa, rBb, rBc, rBd, Evk_v, Evk_n, Nat.reduceAdd, Nat.reduceLeDiff, Nat.le_refl, Nat.zero_le, cz_0, cz_1, cI_1, cO_1, cz_2, cI_2, cO_2, cL_2, cD_2, cz_3, cI_3, cO_3, cL_3, cD_3, cz_4, cI_4, cO_4, cL_4, cD_4, cz_5, cI_5, cO_5, cL_5, cD_5, cz_6, cI_6, cO_6, cL_6, cD_6, cz_7, cI_7, cO_7, cL_7, cD_7, cz_8, cI_8, cO_8, cL_8, cD_8, List.mem_cons, or_true, true_or, and_self, sI_S, sL_S, sR_S, sD_S, gb_S, sI_R, sL_R, sD_R, gb_R, sI_L, sR_I, sR_L, sL_I, sD_I, sD_L, gb_I, gb_L, y_S20 hL, e1, y_S20 L1, M1.2.2.2.1, iN_s, c1_It, c1_Ot, bI_T, bI_F, i10, i01, if_true, if_false, not_true_eq_false, not_false_eq_true, Bool.false_eq_true, Int32.or_zero, ne_eq, Bool.and_eq_true, decide_eq_true_eq, decide_true, decide_false, and_true, true_and, and_false, false_and, Bool.and_true, Bool.true_and, Bool.and_false, Bool.false_and]
    · rfl
    · rfl
    · exact Kep_27 K1
    · exact En_of P2 hw
/-- the letter of an entry -/
theorem m221a (hL : Lay L xs g) (hl : l ≤ 60) (hs : ∀ j, j < l → s j < 127) (he : e < 20) (m : MT s l g0 g i e) (hi : i < l) (hw : s i = 100 ∨ s i = 106 ∨ s i = 108 ∨ s i = 110 ∨ s i = 112) : Ev (d + 2) 221 0 [some (vR (20, 0, 0)), none] [] g = Ev (d + 2) 221 65 [some (vR (20, 0, 0)), some (vI (iN (s i)))] [] (sI (sI g (21, 17, 0) e (iN (s i))) (20, 0, 0) 27 (iN (i + 1))) := by
  have h127 := hs i hi
  have e218 : ∀ d, Ev d 218 0 [some (vR (20, 0, 0))] [] g = some (.inl (some (vI (iN (s i)))), g) := fun d => by
    rw [m218 hL m hl (by omega)]
    unfold sg
    rw [if_pos hi]
  have hin : inB (iN i) 60 := inB_of (by omega) (by decide)
  have hto : (iN i).toNatClampNeg = i := n_i (by omega)
  have hin2 : inB (iN e) 20 := inB_of he (by decide)
  have hto2 : (iN e).toNatClampNeg = e := n_i (by omega)
  have hL1 : Lay L xs (sI g (21, 17, 0) e (iN (s i))) := Lay_sI hL (by decide)
  have s1 : Ev (d + 2) 221 0 [some (vR (20, 0, 0)), none] [] g = Ev (d + 2) 221 37 [some (vR (20, 0, 0)), some (vI (iN (s i)))] [] g := by
    have c1 : (iN (s i) = 106) = (s i = 106) := iN_inj (b := 106) (by omega) (by decide)
    have c2 : (iN (s i) = 108) = (s i = 108) := iN_inj (b := 108) (by omega) (by decide)
    have c3 : (iN (s i) = 112) = (s i = 112) := iN_inj (b := 112) (by omega) (by decide)
    have c4 : (iN (s i) = 110) = (s i = 110) := iN_inj (b := 110) (by omega) (by decide)
    have c5 : (iN (s i) = 100) = (s i = 100) := iN_inj (b := 100) (by omega) (by decide)
    by_cases z1 : s i = 106
    · simp only [v221_0, v221_1, v221_4, v221_5, v221_6, v221_8, v221_11, v221_12, v221_14, v221_17, v221_18, v221_20, v221_23, v221_24, v221_26, v221_29, v221_30, v221_32, v221_35, v221_36, n_14, n_8, inB_of, Nat.reduceLT, Prod.mk.injEq, true_and, rB, rBn, rBa, rBb, rBc, rBd, Evk_v, Evk_n, Nat.reduceAdd, Nat.reduceLeDiff, Nat.le_refl, Nat.zero_le, cz_0, cz_1, cI_1, cO_1, cz_2, cI_2, cO_2, cL_2, cD_2, cz_3, cI_3, cO_3, cL_3, cD_3, cz_4, cI_4, cO_4, cL_4, cD_4, cz_5, cI_5, cO_5, cL_5, cD_5, cz_6, cI_6, cO_6, cL_6, cD_6, cz_7, cI_7, cO_7, cL_7, cD_7, cz_8, cI_8, cO_8, cL_8, cD_8, List.mem_cons, or_true, true_or, and_self, sI_S, sL_S, sR_S, sD_S, gb_S, sI_R, sL_R, sD_R, gb_R, sI_L, sR_I, sR_L, sL_I, sD_I, sD_L, gb_I, gb_L, y_S20 hL, e218, c1, if_pos z1]
    by_cases z2 : s i = 108
    · simp only [v221_0, v221_1, v221_4, v221_5, v221_6, v221_8, v221_11, v221_12, v221_14, v221_17, v221_18, v221_20, v221_23, v221_24, v221_26, v221_29, v221_30, v221_32, v221_35, v221_36, n_14, n_8, inB_of, Nat.reduceLT, Prod.mk.injEq, true_and, rB, rBn, rBa, rBb, rBc, rBd, Evk_v, Evk_n, Nat.reduceAdd, Nat.reduceLeDiff, Nat.le_refl, Nat.zero_le, cz_0, cz_1, cI_1, cO_1, cz_2, cI_2, cO_2, cL_2, cD_2, cz_3, cI_3, cO_3, cL_3, cD_3, cz_4, cI_4, cO_4, cL_4, cD_4, cz_5, cI_5, cO_5, cL_5, cD_5, cz_6, cI_6, cO_6, cL_6, cD_6, cz_7, cI_7, cO_7, cL_7, cD_7, cz_8, cI_8, cO_8, cL_8, cD_8, List.mem_cons, or_true, true_or, and_self, sI_S, sL_S, sR_S, sD_S, gb_S, sI_R, sL_R, sD_R, gb_R, sI_L, sR_I, sR_L, sL_I, sD_I, sD_L, gb_I, gb_L, y_S20 hL, e218, c1, c2, if_neg z1, if_pos z2]
    by_cases z3 : s i = 112
    · simp only [v221_0, v221_1, v221_4, v221_5, v221_6, v221_8, v221_11, v221_12, v221_14, v221_17, v221_18, v221_20, v221_23, v221_24, v221_26, v221_29, v221_30, v221_32, v221_35, v221_36, n_14, n_8, inB_of, Nat.reduceLT, Prod.mk.injEq, true_and, rB, rBn, rBa, rBb, rBc, rBd, Evk_v, Evk_n, Nat.reduceAdd, Nat.reduceLeDiff, Nat.le_refl, Nat.zero_le, cz_0, cz_1, cI_1, cO_1, cz_2, cI_2, cO_2, cL_2, cD_2, cz_3, cI_3, cO_3, cL_3, cD_3, cz_4, cI_4, cO_4, cL_4, cD_4, cz_5, cI_5, cO_5, cL_5, cD_5, cz_6, cI_6, cO_6, cL_6, cD_6, cz_7, cI_7, cO_7, cL_7, cD_7, cz_8, cI_8, cO_8, cL_8, cD_8, List.mem_cons, or_true, true_or, and_self, sI_S, sL_S, sR_S, sD_S, gb_S, sI_R, sL_R, sD_R, gb_R, sI_L, sR_I, sR_L, sL_I, sD_I, sD_L, gb_I, gb_L, y_S20 hL, e218, c1, c2, c3, if_neg z1, if_neg z2, if_pos z3]
    by_cases z4 : s i = 110
    · simp only [v221_0, v221_1, v221_4, v221_5, v221_6, v221_8, v221_11, v221_12, v221_14, v221_17, v221_18, v221_20, v221_23, v221_24, v221_26, v221_29, v221_30, v221_32, v221_35, v221_36, n_14, n_8, inB_of, Nat.reduceLT, Prod.mk.injEq, true_and, rB, rBn, rBa, rBb, rBc, rBd, Evk_v, Evk_n, Nat.reduceAdd, Nat.reduceLeDiff, Nat.le_refl, Nat.zero_le, cz_0, cz_1, cI_1, cO_1, cz_2, cI_2, cO_2, cL_2, cD_2, cz_3, cI_3, cO_3, cL_3, cD_3, cz_4, cI_4, cO_4, cL_4, cD_4, cz_5, cI_5, cO_5, cL_5, cD_5, cz_6, cI_6, cO_6, cL_6, cD_6, cz_7, cI_7, cO_7, cL_7, cD_7, cz_8, cI_8, cO_8, cL_8, cD_8, List.mem_cons, or_true, true_or, and_self, sI_S, sL_S, sR_S, sD_S, gb_S, sI_R, sL_R, sD_R, gb_R, sI_L, sR_I, sR_L, sL_I, sD_I, sD_L, gb_I, gb_L, y_S20 hL, e218, c1, c2, c3, c4, if_neg z1, if_neg z2, if_neg z3, if_pos z4]
    · have z5 : s i = 100 := by omega
      simp only [v221_0, v221_1, v221_4, v221_5, v221_6, v221_8, v221_11, v221_12, v221_14, v221_17, v221_18, v221_20, v221_23, v221_24, v221_26, v221_29, v221_30, v221_32, v221_35, v221_36, n_14, n_8, inB_of, Nat.reduceLT, Prod.mk.injEq, true_and, rB, rBn, rBa, rBb, rBc, rBd, Evk_v, Evk_n, Nat.reduceAdd, Nat.reduceLeDiff, Nat.le_refl, Nat.zero_le, cz_0, cz_1, cI_1, cO_1, cz_2, cI_2, cO_2, cL_2, cD_2, cz_3, cI_3, cO_3, cL_3, cD_3, cz_4, cI_4, cO_4, cL_4, cD_4, cz_5, cI_5, cO_5, cL_5, cD_5, cz_6, cI_6, cO_6, cL_6, cD_6, cz_7, cI_7, cO_7, cL_7, cD_7, cz_8, cI_8, cO_8, cL_8, cD_8, List.mem_cons, or_true, true_or, and_self, sI_S, sL_S, sR_S, sD_S, gb_S, sI_R, sL_R, sD_R, gb_R, sI_L, sR_I, sR_L, sL_I, sD_I, sD_L, gb_I, gb_L, y_S20 hL, e218, c1, c2, c3, c4, c5, if_neg z1, if_neg z2, if_neg z3, if_neg z4, if_pos z5]
  rw [s1]
  simp only [v221_37, v221_38, v221_41, v221_42, v221_45, v221_46, v221_49, v221_50, v221_53, v221_54, v221_55, v221_56, v221_57, v221_60, v221_61, v221_62, n_14, n_8, inB_of, Nat.reduceLT, Prod.mk.injEq, true_and, rB, rBn, rBa, rBb, rBc, rBd, Evk_v, Evk_n, Nat.reduceAdd, Nat.reduceLeDiff, Nat.le_refl, Nat.zero_le, cz_0, cz_1, cI_1, cO_1, cz_2, cI_2, cO_2, cL_2, cD_2, cz_3, cI_3, cO_3, cL_3, cD_3, cz_4, cI_4, cO_4, cL_4, cD_4, cz_5, cI_5, cO_5, cL_5, cD_5, cz_6, cI_6, cO_6, cL_6, cD_6, cz_7, cI_7, cO_7, cL_7, cD_7, cz_8, cI_8, cO_8, cL_8, cD_8, List.mem_cons, or_true, true_or, and_self, sI_S, sL_S, sR_S, sD_S, gb_S, sI_R, sL_R, sD_R, gb_R, sI_L, sR_I, sR_L, sL_I, sD_I, sD_L, gb_I, gb_L, y_S20 hL, y_F_word hL, y_M_word hL, y_F_input hL, y_M_input hL, m.2.2.1, m.2.2.2.1, m.2.2.2.2.2 i hi, hin, hto, hin2, hto2, nar_c _ h127, y_S20 hL1, sI_I, Prod.mk.injEq, Nat.reduceEqDiff, and_false, false_and, if_false, iN_s, c1_It, c1_Ot, bI_T, bI_F, i10, i01]
theorem op_e {w : Nat} (ht : t.1 = 0) (ew : s i = w) (h0 : fO w ≠ 0) (he : t.2.2.2.1 < 20) (hi : i < l) : RA s l t i = RA s l (opn t w) (i + 1) := by
  refine RA_s hi ?_
  unfold acc
  rw [ew, if_pos ht, if_neg]
  rintro (z | z)
  · exact h0 z
  · omega
/-- the letter taken, what holds then -/
theorem m221b {w : Nat} (hL : Lay L xs g) (m : MT s l g0 g i e) (ee : t.2.2.2.1 = e) : Lay L xs (sI (sI g (21, 17, 0) e (iN w)) (20, 0, 0) 27 (iN (i + 1))) ∧ MT s l g0 (sI (sI g (21, 17, 0) e (iN w)) (20, 0, 0) 27 (iN (i + 1))) (i + 1) e ∧ PE 0 w (sI (sI g (21, 17, 0) e (iN w)) (20, 0, 0) 27 (iN (i + 1))) (opn t w).2.2.2.2 e ∧ Kep e g (sI (sI g (21, 17, 0) e (iN w)) (20, 0, 0) 27 (iN (i + 1))) t.2.2.2.2 (opn t w).2.2.2.2 := by
  subst ee
  have ex : ∀ j, (opn t w).2.2.2.2 j = if j = t.2.2.2.1 * 5 then iN w else if t.2.2.2.1 * 5 < j ∧ j < t.2.2.2.1 * 5 + 5 then 0 else t.2.2.2.2 j := fun j => rfl
  refine ⟨Lay_sI (Lay_sI hL (by decide)) (by decide), MT_27 (MT_a m (Or.inl rfl)), ⟨?_, ?_, fun q hq => absurd hq (Nat.not_lt_zero q), fun q h1 h2 => ?_⟩, ⟨fun k hk => ?_, fun k hk => ?_, fun j hj => ?_⟩⟩
  · rw [ex, if_pos rfl]
  · rw [sI_I, if_neg (by simp), sI_I, if_pos ⟨rfl, rfl⟩]
  · rw [ex, if_neg (by omega), if_pos ⟨by omega, by omega⟩]
  · rw [sI_I, if_neg (by simp), sI_I, if_neg (fun z => by have := z.2; omega)]
  · rw [sI_I, if_neg (by simp), sI_I, if_neg (by simp)]
  · rw [ex, if_neg (by omega), if_neg (by omega)]
theorem Fm_n : Fm 3 0 1 := by unfold Fm; decide
theorem Fm_d : Fm 4 0 3 := by unfold Fm; decide
theorem Fm_j0 : Fm 1 0 1 := by unfold Fm; decide
theorem Fm_j2 : Fm 1 2 3 := by unfold Fm; decide
theorem Fm_p0 : Fm 2 0 1 := by unfold Fm; decide
theorem Fm_p2 : Fm 2 2 1 := by unfold Fm; decide
theorem Fm_p4 : Fm 2 4 3 := by unfold Fm; decide
theorem Fm_p8 : Fm 2 8 1 := by unfold Fm; decide
theorem en_n (hL : Lay L xs g) (hl : l ≤ 60) (hs : ∀ j, j < l → s j < 127) (he : e < 20) (m : MT s l g0 g i e) (hi : i < l) (ht : t.1 = 0) (ee : t.2.2.2.1 = e) (ew : s i = 110) : FnE s l g0 g t.2.2.2.2 i e (Ev (d + 2) 221 0 [some (vR (20, 0, 0)), none] [] g) (RA s l t i) := by
  obtain ⟨L0, M0, P0, K0⟩ := m221b (w := 110) hL m ee
  have s0 := m221a (d := d) hL hl hs he m hi (Or.inr (Or.inr (Or.inr (Or.inl ew))))
  rw [ew] at s0
  refine FnE_e s0 (op_e ht ew (by decide) (by omega) hi) ?_
  generalize hx : (opn t 110).2.2.2.2 = x0 at *
  have ho : opn t 110 = (3, 0, 1, e, x0) := by rw [← hx, ← ee]; rfl
  rw [ho]
  generalize hg : sI (sI g (21, 17, 0) e (iN 110)) (20, 0, 0) 27 (iN (i + 1)) = ga at *
  rcases tdS (d := d) (p := 0) L0 hl hs he M0 P0 K0 hi (by decide) Fm_n with ⟨e1, q1⟩ | ⟨g1, t1, i1, x1, e1, L1, M1, P1, K1, I1, J1, R1, A1⟩
  · have e1 : Ev (d + 1) 220 0 [some (vR (20, 0, 0)), some (vI 0), some (vI 1), none, none] [] ga = _ := e1
    refine FnE_0 ?_ M0 hi q1
    simp only [v221_65, v221_66, v221_67, v221_68, v221_70, v221_73, v221_74, v221_77, v221_78, v221_81, v221_84, v221_85, n_14, n_8, inB_of, Nat.reduceLT, Prod.mk.injEq, true_and, rB, rBn, rBa, rBb, rBc, rBd, Evk_v, Evk_n, Nat.reduceAdd, Nat.reduceLeDiff, Nat.le_refl, Nat.zero_le, cz_0, cz_1, cI_1, cO_1, cz_2, cI_2, cO_2, cL_2, cD_2, cz_3, cI_3, cO_3, cL_3, cD_3, cz_4, cI_4, cO_4, cL_4, cD_4, cz_5, cI_5, cO_5, cL_5, cD_5, cz_6, cI_6, cO_6, cL_6, cD_6, cz_7, cI_7, cO_7, cL_7, cD_7, cz_8, cI_8, cO_8, cL_8, cD_8, List.mem_cons, or_true, true_or, and_self, sI_S, sL_S, sR_S, sD_S, gb_S, sI_R, sL_R, sD_R, gb_R, sI_L, sR_I, sR_L, sL_I, sD_I, sD_L, gb_I, gb_L, y_S20 L0, e1, i10, show ¬ (100 : Int32) = 106 by decide, show ¬ (100 : Int32) = 108 by decide, show ¬ (100 : Int32) = 112 by decide, show ¬ (106 : Int32) = 100 by decide, show ¬ (106 : Int32) = 108 by decide, show ¬ (106 : Int32) = 112 by decide, show ¬ (108 : Int32) = 100 by decide, show ¬ (108 : Int32) = 106 by decide, show ¬ (108 : Int32) = 112 by decide, show ¬ (110 : Int32) = 100 by decide, show ¬ (110 : Int32) = 106 by decide, show ¬ (110 : Int32) = 108 by decide, show ¬ (110 : Int32) = 112 by decide, show ¬ (112 : Int32) = 100 by decide, show ¬ (112 : Int32) = 106 by decide, show ¬ (112 : Int32) = 108 by decide, show iN 100 = 100 by decide, show iN 106 = 106 by decide, show iN 108 = 108 by decide, show iN 110 = 110 by decide, show iN 112 = 112 by decide, if_true, if_false, not_true_eq_false, not_false_eq_true]
  · have e1 : Ev (d + 1) 220 0 [some (vR (20, 0, 0)), some (vI 0), some (vI 1), none, none] [] ga = _ := e1
    refine FnE_e ?_ R1 (m221z (d := d) L1 hl hs M1 P1 K1 J1 (by omega) A1 (by decide) (by decide) (by decide) (Or.inl ⟨Or.inr rfl, by decide⟩))
    simp only [v221_65, v221_66, v221_67, v221_68, v221_70, v221_73, v221_74, v221_77, v221_78, v221_81, v221_84, v221_85, v221_86, v221_87, v221_89, v221_92, v221_93, v221_95, v221_98, v221_99, v221_101, v221_104, v221_107, v221_108, v221_109, v221_110, v221_113, v221_116, v221_117, v221_118, v221_119, v221_121, n_14, n_8, inB_of, Nat.reduceLT, Prod.mk.injEq, true_and, rB, rBn, rBa, rBb, rBc, rBd, Evk_v, Evk_n, Nat.reduceAdd, Nat.reduceLeDiff, Nat.le_refl, Nat.zero_le, cz_0, cz_1, cI_1, cO_1, cz_2, cI_2, cO_2, cL_2, cD_2, cz_3, cI_3, cO_3, cL_3, cD_3, cz_4, cI_4, cO_4, cL_4, cD_4, cz_5, cI_5, cO_5, cL_5, cD_5, cz_6, cI_6, cO_6, cL_6, cD_6, cz_7, cI_7, cO_7, cL_7, cD_7, cz_8, cI_8, cO_8, cL_8, cD_8, List.mem_cons, or_true, true_or, and_self, sI_S, sL_S, sR_S, sD_S, gb_S, sI_R, sL_R, sD_R, gb_R, sI_L, sR_I, sR_L, sL_I, sD_I, sD_L, gb_I, gb_L, y_S20 L0, e1, i10, show ¬ (100 : Int32) = 106 by decide, show ¬ (100 : Int32) = 108 by decide, show ¬ (100 : Int32) = 112 by decide, show ¬ (106 : Int32) = 100 by decide, show ¬ (106 : Int32) = 108 by decide, show ¬ (106 : Int32) = 112 by decide, show ¬ (108 : Int32) = 100 by decide, show ¬ (108 : Int32) = 106 by decide, show ¬ (108 : Int32) = 112 by decide, show ¬ (110 : Int32) = 100 by decide, show ¬ (110 : Int32) = 106 by decide, show ¬ (110 : Int32) = 108 by decide, show ¬ (110 : Int32) = 112 by decide, show ¬ (112 : Int32) = 100 by decide, show ¬ (112 : Int32) = 106 by decide, show ¬ (112 : Int32) = 108 by decide, show iN 100 = 100 by decide, show iN 106 = 106 by decide, show iN 108 = 108 by decide, show iN 110 = 110 by decide, show iN 112 = 112 by decide, if_true, if_false, not_true_eq_false, not_false_eq_true]
theorem en_d (hL : Lay L xs g) (hl : l ≤ 60) (hs : ∀ j, j < l → s j < 127) (he : e < 20) (m : MT s l g0 g i e) (hi : i < l) (ht : t.1 = 0) (ee : t.2.2.2.1 = e) (ew : s i = 100) : FnE s l g0 g t.2.2.2.2 i e (Ev (d + 2) 221 0 [some (vR (20, 0, 0)), none] [] g) (RA s l t i) := by
  obtain ⟨L0, M0, P0, K0⟩ := m221b (w := 100) hL m ee
  have s0 := m221a (d := d) hL hl hs he m hi (Or.inl ew)
  rw [ew] at s0
  refine FnE_e s0 (op_e ht ew (by decide) (by omega) hi) ?_
  generalize hx : (opn t 100).2.2.2.2 = x0 at *
  have ho : opn t 100 = (4, 0, 1, e, x0) := by rw [← hx, ← ee]; rfl
  rw [ho]
  generalize hg : sI (sI g (21, 17, 0) e (iN 100)) (20, 0, 0) 27 (iN (i + 1)) = ga at *
  rcases tdS (d := d) (p := 0) L0 hl hs he M0 P0 K0 hi (by decide) Fm_d with ⟨e1, q1⟩ | ⟨g1, t1, i1, x1, e1, L1, M1, P1, K1, I1, J1, R1, A1⟩
  · have e1 : Ev (d + 1) 220 0 [some (vR (20, 0, 0)), some (vI 0), some (vI 3), none, none] [] ga = _ := e1
    refine FnE_0 ?_ M0 hi q1
    simp only [v221_65, v221_66, v221_67, v221_68, v221_70, v221_73, v221_74, v221_77, v221_78, v221_81, v221_84, v221_85, n_14, n_8, inB_of, Nat.reduceLT, Prod.mk.injEq, true_and, rB, rBn, rBa, rBb, rBc, rBd, Evk_v, Evk_n, Nat.reduceAdd, Nat.reduceLeDiff, Nat.le_refl, Nat.zero_le, cz_0, cz_1, cI_1, cO_1, cz_2, cI_2, cO_2, cL_2, cD_2, cz_3, cI_3, cO_3, cL_3, cD_3, cz_4, cI_4, cO_4, cL_4, cD_4, cz_5, cI_5, cO_5, cL_5, cD_5, cz_6, cI_6, cO_6, cL_6, cD_6, cz_7, cI_7, cO_7, cL_7, cD_7, cz_8, cI_8, cO_8, cL_8, cD_8, List.mem_cons, or_true, true_or, and_self, sI_S, sL_S, sR_S, sD_S, gb_S, sI_R, sL_R, sD_R, gb_R, sI_L, sR_I, sR_L, sL_I, sD_I, sD_L, gb_I, gb_L, y_S20 L0, e1, i10, show ¬ (100 : Int32) = 106 by decide, show ¬ (100 : Int32) = 108 by decide, show ¬ (100 : Int32) = 112 by decide, show ¬ (106 : Int32) = 100 by decide, show ¬ (106 : Int32) = 108 by decide, show ¬ (106 : Int32) = 112 by decide, show ¬ (108 : Int32) = 100 by decide, show ¬ (108 : Int32) = 106 by decide, show ¬ (108 : Int32) = 112 by decide, show ¬ (110 : Int32) = 100 by decide, show ¬ (110 : Int32) = 106 by decide, show ¬ (110 : Int32) = 108 by decide, show ¬ (110 : Int32) = 112 by decide, show ¬ (112 : Int32) = 100 by decide, show ¬ (112 : Int32) = 106 by decide, show ¬ (112 : Int32) = 108 by decide, show iN 100 = 100 by decide, show iN 106 = 106 by decide, show iN 108 = 108 by decide, show iN 110 = 110 by decide, show iN 112 = 112 by decide, if_true, if_false, not_true_eq_false, not_false_eq_true]
  · have e1 : Ev (d + 1) 220 0 [some (vR (20, 0, 0)), some (vI 0), some (vI 3), none, none] [] ga = _ := e1
    refine FnE_e ?_ R1 (m221z (d := d) L1 hl hs M1 P1 K1 J1 (by omega) A1 (by decide) (by decide) (by decide) (Or.inl ⟨Or.inl rfl, by decide⟩))
    simp only [v221_65, v221_66, v221_67, v221_68, v221_70, v221_73, v221_74, v221_77, v221_78, v221_81, v221_84, v221_85, v221_86, v221_87, v221_89, v221_92, v221_93, v221_95, v221_98, v221_99, v221_101, v221_104, v221_107, v221_108, v221_109, v221_110, v221_113, v221_116, v221_117, v221_118, v221_119, v221_121, n_14, n_8, inB_of, Nat.reduceLT, Prod.mk.injEq, true_and, rB, rBn, rBa, rBb, rBc, rBd, Evk_v, Evk_n, Nat.reduceAdd, Nat.reduceLeDiff, Nat.le_refl, Nat.zero_le, cz_0, cz_1, cI_1, cO_1, cz_2, cI_2, cO_2, cL_2, cD_2, cz_3, cI_3, cO_3, cL_3, cD_3, cz_4, cI_4, cO_4, cL_4, cD_4, cz_5, cI_5, cO_5, cL_5, cD_5, cz_6, cI_6, cO_6, cL_6, cD_6, cz_7, cI_7, cO_7, cL_7, cD_7, cz_8, cI_8, cO_8, cL_8, cD_8, List.mem_cons, or_true, true_or, and_self, sI_S, sL_S, sR_S, sD_S, gb_S, sI_R, sL_R, sD_R, gb_R, sI_L, sR_I, sR_L, sL_I, sD_I, sD_L, gb_I, gb_L, y_S20 L0, e1, i10, show ¬ (100 : Int32) = 106 by decide, show ¬ (100 : Int32) = 108 by decide, show ¬ (100 : Int32) = 112 by decide, show ¬ (106 : Int32) = 100 by decide, show ¬ (106 : Int32) = 108 by decide, show ¬ (106 : Int32) = 112 by decide, show ¬ (108 : Int32) = 100 by decide, show ¬ (108 : Int32) = 106 by decide, show ¬ (108 : Int32) = 112 by decide, show ¬ (110 : Int32) = 100 by decide, show ¬ (110 : Int32) = 106 by decide, show ¬ (110 : Int32) = 108 by decide, show ¬ (110 : Int32) = 112 by decide, show ¬ (112 : Int32) = 100 by decide, show ¬ (112 : Int32) = 106 by decide, show ¬ (112 : Int32) = 108 by decide, show iN 100 = 100 by decide, show iN 106 = 106 by decide, show iN 108 = 108 by decide, show iN 110 = 110 by decide, show iN 112 = 112 by decide, if_true, if_false, not_true_eq_false, not_false_eq_true]
theorem en_106 (hL : Lay L xs g) (hl : l ≤ 60) (hs : ∀ j, j < l → s j < 127) (he : e < 20) (m : MT s l g0 g i e) (hi : i < l) (ht : t.1 = 0) (ee : t.2.2.2.1 = e) (ew : s i = 106) : FnE s l g0 g t.2.2.2.2 i e (Ev (d + 2) 221 0 [some (vR (20, 0, 0)), none] [] g) (RA s l t i) := by
  obtain ⟨L0, M0, P0, K0⟩ := m221b (w := 106) hL m ee
  have s0 := m221a (d := d) hL hl hs he m hi (by omega)
  rw [ew] at s0
  refine FnE_e s0 (op_e ht ew (by decide) (by omega) hi) ?_
  generalize hx : (opn t 106).2.2.2.2 = x0 at *
  have ho : opn t 106 = (1, 0, 1, e, x0) := by rw [← hx, ← ee]; rfl
  rw [ho]
  generalize hg : sI (sI g (21, 17, 0) e (iN 106)) (20, 0, 0) 27 (iN (i + 1)) = ga at *
  rcases tdS (d := d) (p := 0) L0 hl hs he M0 P0 K0 hi (by decide) Fm_j0 with ⟨e1, q1⟩ | ⟨g1, t1, i1, x1, e1, L1, M1, P1, K1, I1, J1, R1, A1⟩
  · have e1 : Ev (d + 1) 220 0 [some (vR (20, 0, 0)), some (vI 0), some (vI 1), none, none] [] ga = _ := e1
    refine FnE_0 ?_ M0 hi q1
    simp only [v221_65, v221_66, v221_67, v221_68, v221_70, v221_73, v221_74, v221_77, v221_78, v221_81, v221_84, v221_85, n_14, n_8, inB_of, Nat.reduceLT, Prod.mk.injEq, true_and, rB, rBn, rBa, rBb, rBc, rBd, Evk_v, Evk_n, Nat.reduceAdd, Nat.reduceLeDiff, Nat.le_refl, Nat.zero_le, cz_0, cz_1, cI_1, cO_1, cz_2, cI_2, cO_2, cL_2, cD_2, cz_3, cI_3, cO_3, cL_3, cD_3, cz_4, cI_4, cO_4, cL_4, cD_4, cz_5, cI_5, cO_5, cL_5, cD_5, cz_6, cI_6, cO_6, cL_6, cD_6, cz_7, cI_7, cO_7, cL_7, cD_7, cz_8, cI_8, cO_8, cL_8, cD_8, List.mem_cons, or_true, true_or, and_self, sI_S, sL_S, sR_S, sD_S, gb_S, sI_R, sL_R, sD_R, gb_R, sI_L, sR_I, sR_L, sL_I, sD_I, sD_L, gb_I, gb_L, y_S20 L0, e1, i10, show ¬ (100 : Int32) = 106 by decide, show ¬ (100 : Int32) = 108 by decide, show ¬ (100 : Int32) = 112 by decide, show ¬ (106 : Int32) = 100 by decide, show ¬ (106 : Int32) = 108 by decide, show ¬ (106 : Int32) = 112 by decide, show ¬ (108 : Int32) = 100 by decide, show ¬ (108 : Int32) = 106 by decide, show ¬ (108 : Int32) = 112 by decide, show ¬ (110 : Int32) = 100 by decide, show ¬ (110 : Int32) = 106 by decide, show ¬ (110 : Int32) = 108 by decide, show ¬ (110 : Int32) = 112 by decide, show ¬ (112 : Int32) = 100 by decide, show ¬ (112 : Int32) = 106 by decide, show ¬ (112 : Int32) = 108 by decide, show iN 100 = 100 by decide, show iN 106 = 106 by decide, show iN 108 = 108 by decide, show iN 110 = 110 by decide, show iN 112 = 112 by decide, if_true, if_false, not_true_eq_false, not_false_eq_true]
  have e1 : Ev (d + 1) 220 0 [some (vR (20, 0, 0)), some (vI 0), some (vI 1), none, none] [] ga = _ := e1
  refine FnE_e (E' := Ev (d + 2) 221 98 [some (vR (20, 0, 0)), some (vI (iN 106))] [] g1) ?_ R1 ?_
  · simp only [v221_65, v221_66, v221_67, v221_68, v221_70, v221_73, v221_74, v221_77, v221_78, v221_81, v221_84, v221_85, v221_86, v221_87, v221_89, v221_92, v221_93, v221_95, n_14, n_8, inB_of, Nat.reduceLT, Prod.mk.injEq, true_and, rB, rBn, rBa, rBb, rBc, rBd, Evk_v, Evk_n, Nat.reduceAdd, Nat.reduceLeDiff, Nat.le_refl, Nat.zero_le, cz_0, cz_1, cI_1, cO_1, cz_2, cI_2, cO_2, cL_2, cD_2, cz_3, cI_3, cO_3, cL_3, cD_3, cz_4, cI_4, cO_4, cL_4, cD_4, cz_5, cI_5, cO_5, cL_5, cD_5, cz_6, cI_6, cO_6, cL_6, cD_6, cz_7, cI_7, cO_7, cL_7, cD_7, cz_8, cI_8, cO_8, cL_8, cD_8, List.mem_cons, or_true, true_or, and_self, sI_S, sL_S, sR_S, sD_S, gb_S, sI_R, sL_R, sD_R, gb_R, sI_L, sR_I, sR_L, sL_I, sD_I, sD_L, gb_I, gb_L, y_S20 L0, e1, i10, show ¬ (100 : Int32) = 106 by decide, show ¬ (100 : Int32) = 108 by decide, show ¬ (100 : Int32) = 112 by decide, show ¬ (106 : Int32) = 100 by decide, show ¬ (106 : Int32) = 108 by decide, show ¬ (106 : Int32) = 112 by decide, show ¬ (108 : Int32) = 100 by decide, show ¬ (108 : Int32) = 106 by decide, show ¬ (108 : Int32) = 112 by decide, show ¬ (110 : Int32) = 100 by decide, show ¬ (110 : Int32) = 106 by decide, show ¬ (110 : Int32) = 108 by decide, show ¬ (110 : Int32) = 112 by decide, show ¬ (112 : Int32) = 100 by decide, show ¬ (112 : Int32) = 106 by decide, show ¬ (112 : Int32) = 108 by decide, show iN 100 = 100 by decide, show iN 106 = 106 by decide, show iN 108 = 108 by decide, show iN 110 = 110 by decide, show iN 112 = 112 by decide, if_true, if_false, not_true_eq_false, not_false_eq_true]
  rcases skS (d := d) L1 hl hs M1 P1 K1 J1 A1 (by decide) (ch := 44) (cc := 44) rfl (by decide) (by decide) with ⟨e2, q2⟩ | ⟨g2, e2, L2, M2, P2, K2, J2, R2⟩
  · refine FnE_0 ?_ M1 J1 q2
    simp only [v221_98, v221_99, v221_101, v221_104, v221_107, v221_108, v221_109, v221_110, v221_113, v221_116, v221_117, n_14, n_8, inB_of, Nat.reduceLT, Prod.mk.injEq, true_and, rB, rBn, rBa, rBb, rBc, rBd, Evk_v, Evk_n, Nat.reduceAdd, Nat.reduceLeDiff, Nat.le_refl, Nat.zero_le, cz_0, cz_1, cI_1, cO_1, cz_2, cI_2, cO_2, cL_2, cD_2, cz_3, cI_3, cO_3, cL_3, cD_3, cz_4, cI_4, cO_4, cL_4, cD_4, cz_5, cI_5, cO_5, cL_5, cD_5, cz_6, cI_6, cO_6, cL_6, cD_6, cz_7, cI_7, cO_7, cL_7, cD_7, cz_8, cI_8, cO_8, cL_8, cD_8, List.mem_cons, or_true, true_or, and_self, sI_S, sL_S, sR_S, sD_S, gb_S, sI_R, sL_R, sD_R, gb_R, sI_L, sR_I, sR_L, sL_I, sD_I, sD_L, gb_I, gb_L, y_S20 L1, e2, i10, show ¬ (100 : Int32) = 106 by decide, show ¬ (100 : Int32) = 108 by decide, show ¬ (100 : Int32) = 112 by decide, show ¬ (106 : Int32) = 100 by decide, show ¬ (106 : Int32) = 108 by decide, show ¬ (106 : Int32) = 112 by decide, show ¬ (108 : Int32) = 100 by decide, show ¬ (108 : Int32) = 106 by decide, show ¬ (108 : Int32) = 112 by decide, show ¬ (110 : Int32) = 100 by decide, show ¬ (110 : Int32) = 106 by decide, show ¬ (110 : Int32) = 108 by decide, show ¬ (110 : Int32) = 112 by decide, show ¬ (112 : Int32) = 100 by decide, show ¬ (112 : Int32) = 106 by decide, show ¬ (112 : Int32) = 108 by decide, show iN 100 = 100 by decide, show iN 106 = 106 by decide, show iN 108 = 108 by decide, show iN 110 = 110 by decide, show iN 112 = 112 by decide, if_true, if_false, not_true_eq_false, not_false_eq_true]
  rw [if_neg (show ¬ 0 + 1 + 1 = fN 1 by decide)] at R2
  rcases tdS (d := d) (p := 1) L2 hl hs he M2 P2 K2 J2 (by decide) Fm_j2 with ⟨e3, q3⟩ | ⟨g3, t3, i3, x3, e3, L3, M3, P3, K3, I3, J3, R3, A3⟩
  · have e3 : Ev (d + 1) 220 0 [some (vR (20, 0, 0)), some (vI 1), some (vI 3), none, none] [] g2 = _ := e3
    refine FnE_e rfl R2 (FnE_0 ?_ M2 J2 q3)
    simp only [v221_98, v221_99, v221_101, v221_104, v221_107, v221_108, v221_109, v221_110, v221_113, v221_116, v221_117, n_14, n_8, inB_of, Nat.reduceLT, Prod.mk.injEq, true_and, rB, rBn, rBa, rBb, rBc, rBd, Evk_v, Evk_n, Nat.reduceAdd, Nat.reduceLeDiff, Nat.le_refl, Nat.zero_le, cz_0, cz_1, cI_1, cO_1, cz_2, cI_2, cO_2, cL_2, cD_2, cz_3, cI_3, cO_3, cL_3, cD_3, cz_4, cI_4, cO_4, cL_4, cD_4, cz_5, cI_5, cO_5, cL_5, cD_5, cz_6, cI_6, cO_6, cL_6, cD_6, cz_7, cI_7, cO_7, cL_7, cD_7, cz_8, cI_8, cO_8, cL_8, cD_8, List.mem_cons, or_true, true_or, and_self, sI_S, sL_S, sR_S, sD_S, gb_S, sI_R, sL_R, sD_R, gb_R, sI_L, sR_I, sR_L, sL_I, sD_I, sD_L, gb_I, gb_L, y_S20 L1, y_S20 L2, e2, e3, i10, show ¬ (100 : Int32) = 106 by decide, show ¬ (100 : Int32) = 108 by decide, show ¬ (100 : Int32) = 112 by decide, show ¬ (106 : Int32) = 100 by decide, show ¬ (106 : Int32) = 108 by decide, show ¬ (106 : Int32) = 112 by decide, show ¬ (108 : Int32) = 100 by decide, show ¬ (108 : Int32) = 106 by decide, show ¬ (108 : Int32) = 112 by decide, show ¬ (110 : Int32) = 100 by decide, show ¬ (110 : Int32) = 106 by decide, show ¬ (110 : Int32) = 108 by decide, show ¬ (110 : Int32) = 112 by decide, show ¬ (112 : Int32) = 100 by decide, show ¬ (112 : Int32) = 106 by decide, show ¬ (112 : Int32) = 108 by decide, show iN 100 = 100 by decide, show iN 106 = 106 by decide, show iN 108 = 108 by decide, show iN 110 = 110 by decide, show iN 112 = 112 by decide, if_true, if_false, not_true_eq_false, not_false_eq_true]
  · have e3 : Ev (d + 1) 220 0 [some (vR (20, 0, 0)), some (vI 1), some (vI 3), none, none] [] g2 = _ := e3
    refine FnE_e ?_ (R2.trans R3) (m221z (d := d) L3 hl hs M3 P3 K3 J3 (by omega) A3 (by decide) (by decide) (by decide) (Or.inr (Or.inl ⟨by decide, by decide⟩)))
    simp only [v221_98, v221_99, v221_101, v221_104, v221_107, v221_108, v221_109, v221_110, v221_113, v221_116, v221_117, v221_118, v221_119, v221_121, n_14, n_8, inB_of, Nat.reduceLT, Prod.mk.injEq, true_and, rB, rBn, rBa, rBb, rBc, rBd, Evk_v, Evk_n, Nat.reduceAdd, Nat.reduceLeDiff, Nat.le_refl, Nat.zero_le, cz_0, cz_1, cI_1, cO_1, cz_2, cI_2, cO_2, cL_2, cD_2, cz_3, cI_3, cO_3, cL_3, cD_3, cz_4, cI_4, cO_4, cL_4, cD_4, cz_5, cI_5, cO_5, cL_5, cD_5, cz_6, cI_6, cO_6, cL_6, cD_6, cz_7, cI_7, cO_7, cL_7, cD_7, cz_8, cI_8, cO_8, cL_8, cD_8, List.mem_cons, or_true, true_or, and_self, sI_S, sL_S, sR_S, sD_S, gb_S, sI_R, sL_R, sD_R, gb_R, sI_L, sR_I, sR_L, sL_I, sD_I, sD_L, gb_I, gb_L, y_S20 L1, y_S20 L2, e2, e3, i10, show ¬ (100 : Int32) = 106 by decide, show ¬ (100 : Int32) = 108 by decide, show ¬ (100 : Int32) = 112 by decide, show ¬ (106 : Int32) = 100 by decide, show ¬ (106 : Int32) = 108 by decide, show ¬ (106 : Int32) = 112 by decide, show ¬ (108 : Int32) = 100 by decide, show ¬ (108 : Int32) = 106 by decide, show ¬ (108 : Int32) = 112 by decide, show ¬ (110 : Int32) = 100 by decide, show ¬ (110 : Int32) = 106 by decide, show ¬ (110 : Int32) = 108 by decide, show ¬ (110 : Int32) = 112 by decide, show ¬ (112 : Int32) = 100 by decide, show ¬ (112 : Int32) = 106 by decide, show ¬ (112 : Int32) = 108 by decide, show iN 100 = 100 by decide, show iN 106 = 106 by decide, show iN 108 = 108 by decide, show iN 110 = 110 by decide, show iN 112 = 112 by decide, if_true, if_false, not_true_eq_false, not_false_eq_true]
theorem en_108 (hL : Lay L xs g) (hl : l ≤ 60) (hs : ∀ j, j < l → s j < 127) (he : e < 20) (m : MT s l g0 g i e) (hi : i < l) (ht : t.1 = 0) (ee : t.2.2.2.1 = e) (ew : s i = 108) : FnE s l g0 g t.2.2.2.2 i e (Ev (d + 2) 221 0 [some (vR (20, 0, 0)), none] [] g) (RA s l t i) := by
  obtain ⟨L0, M0, P0, K0⟩ := m221b (w := 108) hL m ee
  have s0 := m221a (d := d) hL hl hs he m hi (by omega)
  rw [ew] at s0
  refine FnE_e s0 (op_e ht ew (by decide) (by omega) hi) ?_
  generalize hx : (opn t 108).2.2.2.2 = x0 at *
  have ho : opn t 108 = (1, 0, 1, e, x0) := by rw [← hx, ← ee]; rfl
  rw [ho]
  generalize hg : sI (sI g (21, 17, 0) e (iN 108)) (20, 0, 0) 27 (iN (i + 1)) = ga at *
  rcases tdS (d := d) (p := 0) L0 hl hs he M0 P0 K0 hi (by decide) Fm_j0 with ⟨e1, q1⟩ | ⟨g1, t1, i1, x1, e1, L1, M1, P1, K1, I1, J1, R1, A1⟩
  · have e1 : Ev (d + 1) 220 0 [some (vR (20, 0, 0)), some (vI 0), some (vI 1), none, none] [] ga = _ := e1
    refine FnE_0 ?_ M0 hi q1
    simp only [v221_65, v221_66, v221_67, v221_68, v221_70, v221_73, v221_74, v221_77, v221_78, v221_81, v221_84, v221_85, n_14, n_8, inB_of, Nat.reduceLT, Prod.mk.injEq, true_and, rB, rBn, rBa, rBb, rBc, rBd, Evk_v, Evk_n, Nat.reduceAdd, Nat.reduceLeDiff, Nat.le_refl, Nat.zero_le, cz_0, cz_1, cI_1, cO_1, cz_2, cI_2, cO_2, cL_2, cD_2, cz_3, cI_3, cO_3, cL_3, cD_3, cz_4, cI_4, cO_4, cL_4, cD_4, cz_5, cI_5, cO_5, cL_5, cD_5, cz_6, cI_6, cO_6, cL_6, cD_6, cz_7, cI_7, cO_7, cL_7, cD_7, cz_8, cI_8, cO_8, cL_8, cD_8, List.mem_cons, or_true, true_or, and_self, sI_S, sL_S, sR_S, sD_S, gb_S, sI_R, sL_R, sD_R, gb_R, sI_L, sR_I, sR_L, sL_I, sD_I, sD_L, gb_I, gb_L, y_S20 L0, e1, i10, show ¬ (100 : Int32) = 106 by decide, show ¬ (100 : Int32) = 108 by decide, show ¬ (100 : Int32) = 112 by decide, show ¬ (106 : Int32) = 100 by decide, show ¬ (106 : Int32) = 108 by decide, show ¬ (106 : Int32) = 112 by decide, show ¬ (108 : Int32) = 100 by decide, show ¬ (108 : Int32) = 106 by decide, show ¬ (108 : Int32) = 112 by decide, show ¬ (110 : Int32) = 100 by decide, show ¬ (110 : Int32) = 106 by decide, show ¬ (110 : Int32) = 108 by decide, show ¬ (110 : Int32) = 112 by decide, show ¬ (112 : Int32) = 100 by decide, show ¬ (112 : Int32) = 106 by decide, show ¬ (112 : Int32) = 108 by decide, show iN 100 = 100 by decide, show iN 106 = 106 by decide, show iN 108 = 108 by decide, show iN 110 = 110 by decide, show iN 112 = 112 by decide, if_true, if_false, not_true_eq_false, not_false_eq_true]
  have e1 : Ev (d + 1) 220 0 [some (vR (20, 0, 0)), some (vI 0), some (vI 1), none, none] [] ga = _ := e1
  refine FnE_e (E' := Ev (d + 2) 221 98 [some (vR (20, 0, 0)), some (vI (iN 108))] [] g1) ?_ R1 ?_
  · simp only [v221_65, v221_66, v221_67, v221_68, v221_70, v221_73, v221_74, v221_77, v221_78, v221_81, v221_84, v221_85, v221_86, v221_87, v221_89, v221_92, v221_93, v221_95, n_14, n_8, inB_of, Nat.reduceLT, Prod.mk.injEq, true_and, rB, rBn, rBa, rBb, rBc, rBd, Evk_v, Evk_n, Nat.reduceAdd, Nat.reduceLeDiff, Nat.le_refl, Nat.zero_le, cz_0, cz_1, cI_1, cO_1, cz_2, cI_2, cO_2, cL_2, cD_2, cz_3, cI_3, cO_3, cL_3, cD_3, cz_4, cI_4, cO_4, cL_4, cD_4, cz_5, cI_5, cO_5, cL_5, cD_5, cz_6, cI_6, cO_6, cL_6, cD_6, cz_7, cI_7, cO_7, cL_7, cD_7, cz_8, cI_8, cO_8, cL_8, cD_8, List.mem_cons, or_true, true_or, and_self, sI_S, sL_S, sR_S, sD_S, gb_S, sI_R, sL_R, sD_R, gb_R, sI_L, sR_I, sR_L, sL_I, sD_I, sD_L, gb_I, gb_L, y_S20 L0, e1, i10, show ¬ (100 : Int32) = 106 by decide, show ¬ (100 : Int32) = 108 by decide, show ¬ (100 : Int32) = 112 by decide, show ¬ (106 : Int32) = 100 by decide, show ¬ (106 : Int32) = 108 by decide, show ¬ (106 : Int32) = 112 by decide, show ¬ (108 : Int32) = 100 by decide, show ¬ (108 : Int32) = 106 by decide, show ¬ (108 : Int32) = 112 by decide, show ¬ (110 : Int32) = 100 by decide, show ¬ (110 : Int32) = 106 by decide, show ¬ (110 : Int32) = 108 by decide, show ¬ (110 : Int32) = 112 by decide, show ¬ (112 : Int32) = 100 by decide, show ¬ (112 : Int32) = 106 by decide, show ¬ (112 : Int32) = 108 by decide, show iN 100 = 100 by decide, show iN 106 = 106 by decide, show iN 108 = 108 by decide, show iN 110 = 110 by decide, show iN 112 = 112 by decide, if_true, if_false, not_true_eq_false, not_false_eq_true]
  rcases skS (d := d) L1 hl hs M1 P1 K1 J1 A1 (by decide) (ch := 44) (cc := 44) rfl (by decide) (by decide) with ⟨e2, q2⟩ | ⟨g2, e2, L2, M2, P2, K2, J2, R2⟩
  · refine FnE_0 ?_ M1 J1 q2
    simp only [v221_98, v221_99, v221_101, v221_104, v221_107, v221_108, v221_109, v221_110, v221_113, v221_116, v221_117, n_14, n_8, inB_of, Nat.reduceLT, Prod.mk.injEq, true_and, rB, rBn, rBa, rBb, rBc, rBd, Evk_v, Evk_n, Nat.reduceAdd, Nat.reduceLeDiff, Nat.le_refl, Nat.zero_le, cz_0, cz_1, cI_1, cO_1, cz_2, cI_2, cO_2, cL_2, cD_2, cz_3, cI_3, cO_3, cL_3, cD_3, cz_4, cI_4, cO_4, cL_4, cD_4, cz_5, cI_5, cO_5, cL_5, cD_5, cz_6, cI_6, cO_6, cL_6, cD_6, cz_7, cI_7, cO_7, cL_7, cD_7, cz_8, cI_8, cO_8, cL_8, cD_8, List.mem_cons, or_true, true_or, and_self, sI_S, sL_S, sR_S, sD_S, gb_S, sI_R, sL_R, sD_R, gb_R, sI_L, sR_I, sR_L, sL_I, sD_I, sD_L, gb_I, gb_L, y_S20 L1, e2, i10, show ¬ (100 : Int32) = 106 by decide, show ¬ (100 : Int32) = 108 by decide, show ¬ (100 : Int32) = 112 by decide, show ¬ (106 : Int32) = 100 by decide, show ¬ (106 : Int32) = 108 by decide, show ¬ (106 : Int32) = 112 by decide, show ¬ (108 : Int32) = 100 by decide, show ¬ (108 : Int32) = 106 by decide, show ¬ (108 : Int32) = 112 by decide, show ¬ (110 : Int32) = 100 by decide, show ¬ (110 : Int32) = 106 by decide, show ¬ (110 : Int32) = 108 by decide, show ¬ (110 : Int32) = 112 by decide, show ¬ (112 : Int32) = 100 by decide, show ¬ (112 : Int32) = 106 by decide, show ¬ (112 : Int32) = 108 by decide, show iN 100 = 100 by decide, show iN 106 = 106 by decide, show iN 108 = 108 by decide, show iN 110 = 110 by decide, show iN 112 = 112 by decide, if_true, if_false, not_true_eq_false, not_false_eq_true]
  rw [if_neg (show ¬ 0 + 1 + 1 = fN 1 by decide)] at R2
  rcases tdS (d := d) (p := 1) L2 hl hs he M2 P2 K2 J2 (by decide) Fm_j2 with ⟨e3, q3⟩ | ⟨g3, t3, i3, x3, e3, L3, M3, P3, K3, I3, J3, R3, A3⟩
  · have e3 : Ev (d + 1) 220 0 [some (vR (20, 0, 0)), some (vI 1), some (vI 3), none, none] [] g2 = _ := e3
    refine FnE_e rfl R2 (FnE_0 ?_ M2 J2 q3)
    simp only [v221_98, v221_99, v221_101, v221_104, v221_107, v221_108, v221_109, v221_110, v221_113, v221_116, v221_117, n_14, n_8, inB_of, Nat.reduceLT, Prod.mk.injEq, true_and, rB, rBn, rBa, rBb, rBc, rBd, Evk_v, Evk_n, Nat.reduceAdd, Nat.reduceLeDiff, Nat.le_refl, Nat.zero_le, cz_0, cz_1, cI_1, cO_1, cz_2, cI_2, cO_2, cL_2, cD_2, cz_3, cI_3, cO_3, cL_3, cD_3, cz_4, cI_4, cO_4, cL_4, cD_4, cz_5, cI_5, cO_5, cL_5, cD_5, cz_6, cI_6, cO_6, cL_6, cD_6, cz_7, cI_7, cO_7, cL_7, cD_7, cz_8, cI_8, cO_8, cL_8, cD_8, List.mem_cons, or_true, true_or, and_self, sI_S, sL_S, sR_S, sD_S, gb_S, sI_R, sL_R, sD_R, gb_R, sI_L, sR_I, sR_L, sL_I, sD_I, sD_L, gb_I, gb_L, y_S20 L1, y_S20 L2, e2, e3, i10, show ¬ (100 : Int32) = 106 by decide, show ¬ (100 : Int32) = 108 by decide, show ¬ (100 : Int32) = 112 by decide, show ¬ (106 : Int32) = 100 by decide, show ¬ (106 : Int32) = 108 by decide, show ¬ (106 : Int32) = 112 by decide, show ¬ (108 : Int32) = 100 by decide, show ¬ (108 : Int32) = 106 by decide, show ¬ (108 : Int32) = 112 by decide, show ¬ (110 : Int32) = 100 by decide, show ¬ (110 : Int32) = 106 by decide, show ¬ (110 : Int32) = 108 by decide, show ¬ (110 : Int32) = 112 by decide, show ¬ (112 : Int32) = 100 by decide, show ¬ (112 : Int32) = 106 by decide, show ¬ (112 : Int32) = 108 by decide, show iN 100 = 100 by decide, show iN 106 = 106 by decide, show iN 108 = 108 by decide, show iN 110 = 110 by decide, show iN 112 = 112 by decide, if_true, if_false, not_true_eq_false, not_false_eq_true]
  · have e3 : Ev (d + 1) 220 0 [some (vR (20, 0, 0)), some (vI 1), some (vI 3), none, none] [] g2 = _ := e3
    refine FnE_e ?_ (R2.trans R3) (m221z (d := d) L3 hl hs M3 P3 K3 J3 (by omega) A3 (by decide) (by decide) (by decide) (Or.inr (Or.inl ⟨by decide, by decide⟩)))
    simp only [v221_98, v221_99, v221_101, v221_104, v221_107, v221_108, v221_109, v221_110, v221_113, v221_116, v221_117, v221_118, v221_119, v221_121, n_14, n_8, inB_of, Nat.reduceLT, Prod.mk.injEq, true_and, rB, rBn, rBa, rBb, rBc, rBd, Evk_v, Evk_n, Nat.reduceAdd, Nat.reduceLeDiff, Nat.le_refl, Nat.zero_le, cz_0, cz_1, cI_1, cO_1, cz_2, cI_2, cO_2, cL_2, cD_2, cz_3, cI_3, cO_3, cL_3, cD_3, cz_4, cI_4, cO_4, cL_4, cD_4, cz_5, cI_5, cO_5, cL_5, cD_5, cz_6, cI_6, cO_6, cL_6, cD_6, cz_7, cI_7, cO_7, cL_7, cD_7, cz_8, cI_8, cO_8, cL_8, cD_8, List.mem_cons, or_true, true_or, and_self, sI_S, sL_S, sR_S, sD_S, gb_S, sI_R, sL_R, sD_R, gb_R, sI_L, sR_I, sR_L, sL_I, sD_I, sD_L, gb_I, gb_L, y_S20 L1, y_S20 L2, e2, e3, i10, show ¬ (100 : Int32) = 106 by decide, show ¬ (100 : Int32) = 108 by decide, show ¬ (100 : Int32) = 112 by decide, show ¬ (106 : Int32) = 100 by decide, show ¬ (106 : Int32) = 108 by decide, show ¬ (106 : Int32) = 112 by decide, show ¬ (108 : Int32) = 100 by decide, show ¬ (108 : Int32) = 106 by decide, show ¬ (108 : Int32) = 112 by decide, show ¬ (110 : Int32) = 100 by decide, show ¬ (110 : Int32) = 106 by decide, show ¬ (110 : Int32) = 108 by decide, show ¬ (110 : Int32) = 112 by decide, show ¬ (112 : Int32) = 100 by decide, show ¬ (112 : Int32) = 106 by decide, show ¬ (112 : Int32) = 108 by decide, show iN 100 = 100 by decide, show iN 106 = 106 by decide, show iN 108 = 108 by decide, show iN 110 = 110 by decide, show iN 112 = 112 by decide, if_true, if_false, not_true_eq_false, not_false_eq_true]
theorem en_p (hL : Lay L xs g) (hl : l ≤ 60) (hs : ∀ j, j < l → s j < 127) (he : e < 20) (m : MT s l g0 g i e) (hi : i < l) (ht : t.1 = 0) (ee : t.2.2.2.1 = e) (ew : s i = 112) : FnE s l g0 g t.2.2.2.2 i e (Ev (d + 2) 221 0 [some (vR (20, 0, 0)), none] [] g) (RA s l t i) := by
  obtain ⟨L0, M0, P0, K0⟩ := m221b (w := 112) hL m ee
  have s0 := m221a (d := d) hL hl hs he m hi (by omega)
  rw [ew] at s0
  refine FnE_e s0 (op_e ht ew (by decide) (by omega) hi) ?_
  generalize hx : (opn t 112).2.2.2.2 = x0 at *
  have ho : opn t 112 = (2, 0, 1, e, x0) := by rw [← hx, ← ee]; rfl
  rw [ho]
  generalize hg : sI (sI g (21, 17, 0) e (iN 112)) (20, 0, 0) 27 (iN (i + 1)) = ga at *
  rcases tdS (d := d) (p := 0) L0 hl hs he M0 P0 K0 hi (by decide) Fm_p0 with ⟨e1, q1⟩ | ⟨g1, t1, i1, x1, e1, L1, M1, P1, K1, I1, J1, R1, A1⟩
  · have e1 : Ev (d + 1) 220 0 [some (vR (20, 0, 0)), some (vI 0), some (vI 1), none, none] [] ga = _ := e1
    refine FnE_0 ?_ M0 hi q1
    simp only [v221_65, v221_66, v221_67, v221_68, v221_70, v221_73, v221_74, v221_77, v221_78, v221_81, v221_84, v221_85, n_14, n_8, inB_of, Nat.reduceLT, Prod.mk.injEq, true_and, rB, rBn, rBa, rBb, rBc, rBd, Evk_v, Evk_n, Nat.reduceAdd, Nat.reduceLeDiff, Nat.le_refl, Nat.zero_le, cz_0, cz_1, cI_1, cO_1, cz_2, cI_2, cO_2, cL_2, cD_2, cz_3, cI_3, cO_3, cL_3, cD_3, cz_4, cI_4, cO_4, cL_4, cD_4, cz_5, cI_5, cO_5, cL_5, cD_5, cz_6, cI_6, cO_6, cL_6, cD_6, cz_7, cI_7, cO_7, cL_7, cD_7, cz_8, cI_8, cO_8, cL_8, cD_8, List.mem_cons, or_true, true_or, and_self, sI_S, sL_S, sR_S, sD_S, gb_S, sI_R, sL_R, sD_R, gb_R, sI_L, sR_I, sR_L, sL_I, sD_I, sD_L, gb_I, gb_L, y_S20 L0, e1, i10, show ¬ (100 : Int32) = 106 by decide, show ¬ (100 : Int32) = 108 by decide, show ¬ (100 : Int32) = 112 by decide, show ¬ (106 : Int32) = 100 by decide, show ¬ (106 : Int32) = 108 by decide, show ¬ (106 : Int32) = 112 by decide, show ¬ (108 : Int32) = 100 by decide, show ¬ (108 : Int32) = 106 by decide, show ¬ (108 : Int32) = 112 by decide, show ¬ (110 : Int32) = 100 by decide, show ¬ (110 : Int32) = 106 by decide, show ¬ (110 : Int32) = 108 by decide, show ¬ (110 : Int32) = 112 by decide, show ¬ (112 : Int32) = 100 by decide, show ¬ (112 : Int32) = 106 by decide, show ¬ (112 : Int32) = 108 by decide, show iN 100 = 100 by decide, show iN 106 = 106 by decide, show iN 108 = 108 by decide, show iN 110 = 110 by decide, show iN 112 = 112 by decide, if_true, if_false, not_true_eq_false, not_false_eq_true]
  have e1 : Ev (d + 1) 220 0 [some (vR (20, 0, 0)), some (vI 0), some (vI 1), none, none] [] ga = _ := e1
  refine FnE_e (E' := Ev (d + 2) 221 124 [some (vR (20, 0, 0)), some (vI (iN 112))] [] g1) ?_ R1 ?_
  · simp only [v221_65, v221_66, v221_67, v221_68, v221_70, v221_73, v221_74, v221_77, v221_78, v221_81, v221_84, v221_85, v221_86, v221_87, v221_89, v221_92, v221_93, v221_95, v221_98, v221_99, v221_101, v221_104, v221_107, v221_108, v221_109, v221_110, v221_113, v221_116, v221_117, v221_118, v221_119, v221_121, n_14, n_8, inB_of, Nat.reduceLT, Prod.mk.injEq, true_and, rB, rBn, rBa, rBb, rBc, rBd, Evk_v, Evk_n, Nat.reduceAdd, Nat.reduceLeDiff, Nat.le_refl, Nat.zero_le, cz_0, cz_1, cI_1, cO_1, cz_2, cI_2, cO_2, cL_2, cD_2, cz_3, cI_3, cO_3, cL_3, cD_3, cz_4, cI_4, cO_4, cL_4, cD_4, cz_5, cI_5, cO_5, cL_5, cD_5, cz_6, cI_6, cO_6, cL_6, cD_6, cz_7, cI_7, cO_7, cL_7, cD_7, cz_8, cI_8, cO_8, cL_8, cD_8, List.mem_cons, or_true, true_or, and_self, sI_S, sL_S, sR_S, sD_S, gb_S, sI_R, sL_R, sD_R, gb_R, sI_L, sR_I, sR_L, sL_I, sD_I, sD_L, gb_I, gb_L, y_S20 L0, e1, i10, show ¬ (100 : Int32) = 106 by decide, show ¬ (100 : Int32) = 108 by decide, show ¬ (100 : Int32) = 112 by decide, show ¬ (106 : Int32) = 100 by decide, show ¬ (106 : Int32) = 108 by decide, show ¬ (106 : Int32) = 112 by decide, show ¬ (108 : Int32) = 100 by decide, show ¬ (108 : Int32) = 106 by decide, show ¬ (108 : Int32) = 112 by decide, show ¬ (110 : Int32) = 100 by decide, show ¬ (110 : Int32) = 106 by decide, show ¬ (110 : Int32) = 108 by decide, show ¬ (110 : Int32) = 112 by decide, show ¬ (112 : Int32) = 100 by decide, show ¬ (112 : Int32) = 106 by decide, show ¬ (112 : Int32) = 108 by decide, show iN 100 = 100 by decide, show iN 106 = 106 by decide, show iN 108 = 108 by decide, show iN 110 = 110 by decide, show iN 112 = 112 by decide, if_true, if_false, not_true_eq_false, not_false_eq_true]
  rcases skS (d := d) L1 hl hs M1 P1 K1 J1 A1 (by decide) (ch := 64) (cc := 64) rfl (by decide) (by decide) with ⟨e2, q2⟩ | ⟨g2, e2, L2, M2, P2, K2, J2, R2⟩
  · refine FnE_0 ?_ M1 J1 q2
    simp only [v221_124, v221_125, v221_127, v221_130, v221_133, v221_134, v221_135, v221_136, v221_139, v221_142, v221_143, v221_145, v221_148, v221_151, v221_152, v221_153, v221_154, v221_157, v221_160, v221_161, v221_163, v221_166, v221_169, v221_170, v221_171, v221_172, v221_175, v221_178, v221_179, n_14, n_8, inB_of, Nat.reduceLT, Prod.mk.injEq, true_and, rB, rBn, rBa, rBb, rBc, rBd, Evk_v, Evk_n, Nat.reduceAdd, Nat.reduceLeDiff, Nat.le_refl, Nat.zero_le, cz_0, cz_1, cI_1, cO_1, cz_2, cI_2, cO_2, cL_2, cD_2, cz_3, cI_3, cO_3, cL_3, cD_3, cz_4, cI_4, cO_4, cL_4, cD_4, cz_5, cI_5, cO_5, cL_5, cD_5, cz_6, cI_6, cO_6, cL_6, cD_6, cz_7, cI_7, cO_7, cL_7, cD_7, cz_8, cI_8, cO_8, cL_8, cD_8, List.mem_cons, or_true, true_or, and_self, sI_S, sL_S, sR_S, sD_S, gb_S, sI_R, sL_R, sD_R, gb_R, sI_L, sR_I, sR_L, sL_I, sD_I, sD_L, gb_I, gb_L, y_S20 L1, e2, i10, show ¬ (100 : Int32) = 106 by decide, show ¬ (100 : Int32) = 108 by decide, show ¬ (100 : Int32) = 112 by decide, show ¬ (106 : Int32) = 100 by decide, show ¬ (106 : Int32) = 108 by decide, show ¬ (106 : Int32) = 112 by decide, show ¬ (108 : Int32) = 100 by decide, show ¬ (108 : Int32) = 106 by decide, show ¬ (108 : Int32) = 112 by decide, show ¬ (110 : Int32) = 100 by decide, show ¬ (110 : Int32) = 106 by decide, show ¬ (110 : Int32) = 108 by decide, show ¬ (110 : Int32) = 112 by decide, show ¬ (112 : Int32) = 100 by decide, show ¬ (112 : Int32) = 106 by decide, show ¬ (112 : Int32) = 108 by decide, show iN 100 = 100 by decide, show iN 106 = 106 by decide, show iN 108 = 108 by decide, show iN 110 = 110 by decide, show iN 112 = 112 by decide, if_true, if_false, not_true_eq_false, not_false_eq_true]
  rw [if_neg (show ¬ 0 + 1 + 1 = fN 2 by decide)] at R2
  rcases tdS (d := d) (p := 1) L2 hl hs he M2 P2 K2 J2 (by decide) Fm_p2 with ⟨e3, q3⟩ | ⟨g3, t3, i3, x3, e3, L3, M3, P3, K3, I3, J3, R3, A3⟩
  · have e3 : Ev (d + 1) 220 0 [some (vR (20, 0, 0)), some (vI 1), some (vI 1), none, none] [] g2 = _ := e3
    refine FnE_e rfl R2 (FnE_0 ?_ M2 J2 q3)
    simp only [v221_124, v221_125, v221_127, v221_130, v221_133, v221_134, v221_135, v221_136, v221_139, v221_142, v221_143, v221_145, v221_148, v221_151, v221_152, v221_153, v221_154, v221_157, v221_160, v221_161, v221_163, v221_166, v221_169, v221_170, v221_171, v221_172, v221_175, v221_178, v221_179, n_14, n_8, inB_of, Nat.reduceLT, Prod.mk.injEq, true_and, rB, rBn, rBa, rBb, rBc, rBd, Evk_v, Evk_n, Nat.reduceAdd, Nat.reduceLeDiff, Nat.le_refl, Nat.zero_le, cz_0, cz_1, cI_1, cO_1, cz_2, cI_2, cO_2, cL_2, cD_2, cz_3, cI_3, cO_3, cL_3, cD_3, cz_4, cI_4, cO_4, cL_4, cD_4, cz_5, cI_5, cO_5, cL_5, cD_5, cz_6, cI_6, cO_6, cL_6, cD_6, cz_7, cI_7, cO_7, cL_7, cD_7, cz_8, cI_8, cO_8, cL_8, cD_8, List.mem_cons, or_true, true_or, and_self, sI_S, sL_S, sR_S, sD_S, gb_S, sI_R, sL_R, sD_R, gb_R, sI_L, sR_I, sR_L, sL_I, sD_I, sD_L, gb_I, gb_L, y_S20 L1, y_S20 L2, e2, e3, i10, show ¬ (100 : Int32) = 106 by decide, show ¬ (100 : Int32) = 108 by decide, show ¬ (100 : Int32) = 112 by decide, show ¬ (106 : Int32) = 100 by decide, show ¬ (106 : Int32) = 108 by decide, show ¬ (106 : Int32) = 112 by decide, show ¬ (108 : Int32) = 100 by decide, show ¬ (108 : Int32) = 106 by decide, show ¬ (108 : Int32) = 112 by decide, show ¬ (110 : Int32) = 100 by decide, show ¬ (110 : Int32) = 106 by decide, show ¬ (110 : Int32) = 108 by decide, show ¬ (110 : Int32) = 112 by decide, show ¬ (112 : Int32) = 100 by decide, show ¬ (112 : Int32) = 106 by decide, show ¬ (112 : Int32) = 108 by decide, show iN 100 = 100 by decide, show iN 106 = 106 by decide, show iN 108 = 108 by decide, show iN 110 = 110 by decide, show iN 112 = 112 by decide, if_true, if_false, not_true_eq_false, not_false_eq_true]
  have e3 : Ev (d + 1) 220 0 [some (vR (20, 0, 0)), some (vI 1), some (vI 1), none, none] [] g2 = _ := e3
  refine FnE_e (E' := Ev (d + 2) 221 142 [some (vR (20, 0, 0)), some (vI (iN 112))] [] g3) ?_ (R2.trans R3) ?_
  · simp only [v221_124, v221_125, v221_127, v221_130, v221_133, v221_134, v221_135, v221_136, v221_139, n_14, n_8, inB_of, Nat.reduceLT, Prod.mk.injEq, true_and, rB, rBn, rBa, rBb, rBc, rBd, Evk_v, Evk_n, Nat.reduceAdd, Nat.reduceLeDiff, Nat.le_refl, Nat.zero_le, cz_0, cz_1, cI_1, cO_1, cz_2, cI_2, cO_2, cL_2, cD_2, cz_3, cI_3, cO_3, cL_3, cD_3, cz_4, cI_4, cO_4, cL_4, cD_4, cz_5, cI_5, cO_5, cL_5, cD_5, cz_6, cI_6, cO_6, cL_6, cD_6, cz_7, cI_7, cO_7, cL_7, cD_7, cz_8, cI_8, cO_8, cL_8, cD_8, List.mem_cons, or_true, true_or, and_self, sI_S, sL_S, sR_S, sD_S, gb_S, sI_R, sL_R, sD_R, gb_R, sI_L, sR_I, sR_L, sL_I, sD_I, sD_L, gb_I, gb_L, y_S20 L1, y_S20 L2, e2, e3, i10, show ¬ (100 : Int32) = 106 by decide, show ¬ (100 : Int32) = 108 by decide, show ¬ (100 : Int32) = 112 by decide, show ¬ (106 : Int32) = 100 by decide, show ¬ (106 : Int32) = 108 by decide, show ¬ (106 : Int32) = 112 by decide, show ¬ (108 : Int32) = 100 by decide, show ¬ (108 : Int32) = 106 by decide, show ¬ (108 : Int32) = 112 by decide, show ¬ (110 : Int32) = 100 by decide, show ¬ (110 : Int32) = 106 by decide, show ¬ (110 : Int32) = 108 by decide, show ¬ (110 : Int32) = 112 by decide, show ¬ (112 : Int32) = 100 by decide, show ¬ (112 : Int32) = 106 by decide, show ¬ (112 : Int32) = 108 by decide, show iN 100 = 100 by decide, show iN 106 = 106 by decide, show iN 108 = 108 by decide, show iN 110 = 110 by decide, show iN 112 = 112 by decide, if_true, if_false, not_true_eq_false, not_false_eq_true]
  rcases skS (d := d) L3 hl hs M3 P3 K3 J3 A3 (by decide) (ch := 44) (cc := 44) rfl (by decide) (by decide) with ⟨e4, q4⟩ | ⟨g4, e4, L4, M4, P4, K4, J4, R4⟩
  · refine FnE_0 ?_ M3 J3 q4
    simp only [v221_142, v221_143, v221_145, v221_148, v221_151, v221_152, v221_153, v221_154, v221_157, v221_160, v221_161, v221_163, v221_166, v221_169, v221_170, v221_171, v221_172, v221_175, v221_178, v221_179, n_14, n_8, inB_of, Nat.reduceLT, Prod.mk.injEq, true_and, rB, rBn, rBa, rBb, rBc, rBd, Evk_v, Evk_n, Nat.reduceAdd, Nat.reduceLeDiff, Nat.le_refl, Nat.zero_le, cz_0, cz_1, cI_1, cO_1, cz_2, cI_2, cO_2, cL_2, cD_2, cz_3, cI_3, cO_3, cL_3, cD_3, cz_4, cI_4, cO_4, cL_4, cD_4, cz_5, cI_5, cO_5, cL_5, cD_5, cz_6, cI_6, cO_6, cL_6, cD_6, cz_7, cI_7, cO_7, cL_7, cD_7, cz_8, cI_8, cO_8, cL_8, cD_8, List.mem_cons, or_true, true_or, and_self, sI_S, sL_S, sR_S, sD_S, gb_S, sI_R, sL_R, sD_R, gb_R, sI_L, sR_I, sR_L, sL_I, sD_I, sD_L, gb_I, gb_L, y_S20 L3, e4, i10, show ¬ (100 : Int32) = 106 by decide, show ¬ (100 : Int32) = 108 by decide, show ¬ (100 : Int32) = 112 by decide, show ¬ (106 : Int32) = 100 by decide, show ¬ (106 : Int32) = 108 by decide, show ¬ (106 : Int32) = 112 by decide, show ¬ (108 : Int32) = 100 by decide, show ¬ (108 : Int32) = 106 by decide, show ¬ (108 : Int32) = 112 by decide, show ¬ (110 : Int32) = 100 by decide, show ¬ (110 : Int32) = 106 by decide, show ¬ (110 : Int32) = 108 by decide, show ¬ (110 : Int32) = 112 by decide, show ¬ (112 : Int32) = 100 by decide, show ¬ (112 : Int32) = 106 by decide, show ¬ (112 : Int32) = 108 by decide, show iN 100 = 100 by decide, show iN 106 = 106 by decide, show iN 108 = 108 by decide, show iN 110 = 110 by decide, show iN 112 = 112 by decide, if_true, if_false, not_true_eq_false, not_false_eq_true]
  rw [if_neg (show ¬ 2 + 1 + 1 = fN 2 by decide)] at R4
  rcases tdS (d := d) (p := 2) L4 hl hs he M4 P4 K4 J4 (by decide) Fm_p4 with ⟨e5, q5⟩ | ⟨g5, t5, i5, x5, e5, L5, M5, P5, K5, I5, J5, R5, A5⟩
  · have e5 : Ev (d + 1) 220 0 [some (vR (20, 0, 0)), some (vI 2), some (vI 3), none, none] [] g4 = _ := e5
    refine FnE_e rfl R4 (FnE_0 ?_ M4 J4 q5)
    simp only [v221_142, v221_143, v221_145, v221_148, v221_151, v221_152, v221_153, v221_154, v221_157, v221_160, v221_161, v221_163, v221_166, v221_169, v221_170, v221_171, v221_172, v221_175, v221_178, v221_179, n_14, n_8, inB_of, Nat.reduceLT, Prod.mk.injEq, true_and, rB, rBn, rBa, rBb, rBc, rBd, Evk_v, Evk_n, Nat.reduceAdd, Nat.reduceLeDiff, Nat.le_refl, Nat.zero_le, cz_0, cz_1, cI_1, cO_1, cz_2, cI_2, cO_2, cL_2, cD_2, cz_3, cI_3, cO_3, cL_3, cD_3, cz_4, cI_4, cO_4, cL_4, cD_4, cz_5, cI_5, cO_5, cL_5, cD_5, cz_6, cI_6, cO_6, cL_6, cD_6, cz_7, cI_7, cO_7, cL_7, cD_7, cz_8, cI_8, cO_8, cL_8, cD_8, List.mem_cons, or_true, true_or, and_self, sI_S, sL_S, sR_S, sD_S, gb_S, sI_R, sL_R, sD_R, gb_R, sI_L, sR_I, sR_L, sL_I, sD_I, sD_L, gb_I, gb_L, y_S20 L3, y_S20 L4, e4, e5, i10, show ¬ (100 : Int32) = 106 by decide, show ¬ (100 : Int32) = 108 by decide, show ¬ (100 : Int32) = 112 by decide, show ¬ (106 : Int32) = 100 by decide, show ¬ (106 : Int32) = 108 by decide, show ¬ (106 : Int32) = 112 by decide, show ¬ (108 : Int32) = 100 by decide, show ¬ (108 : Int32) = 106 by decide, show ¬ (108 : Int32) = 112 by decide, show ¬ (110 : Int32) = 100 by decide, show ¬ (110 : Int32) = 106 by decide, show ¬ (110 : Int32) = 108 by decide, show ¬ (110 : Int32) = 112 by decide, show ¬ (112 : Int32) = 100 by decide, show ¬ (112 : Int32) = 106 by decide, show ¬ (112 : Int32) = 108 by decide, show iN 100 = 100 by decide, show iN 106 = 106 by decide, show iN 108 = 108 by decide, show iN 110 = 110 by decide, show iN 112 = 112 by decide, if_true, if_false, not_true_eq_false, not_false_eq_true]
  have e5 : Ev (d + 1) 220 0 [some (vR (20, 0, 0)), some (vI 2), some (vI 3), none, none] [] g4 = _ := e5
  refine FnE_e (E' := Ev (d + 2) 221 160 [some (vR (20, 0, 0)), some (vI (iN 112))] [] g5) ?_ (R4.trans R5) ?_
  · simp only [v221_142, v221_143, v221_145, v221_148, v221_151, v221_152, v221_153, v221_154, v221_157, n_14, n_8, inB_of, Nat.reduceLT, Prod.mk.injEq, true_and, rB, rBn, rBa, rBb, rBc, rBd, Evk_v, Evk_n, Nat.reduceAdd, Nat.reduceLeDiff, Nat.le_refl, Nat.zero_le, cz_0, cz_1, cI_1, cO_1, cz_2, cI_2, cO_2, cL_2, cD_2, cz_3, cI_3, cO_3, cL_3, cD_3, cz_4, cI_4, cO_4, cL_4, cD_4, cz_5, cI_5, cO_5, cL_5, cD_5, cz_6, cI_6, cO_6, cL_6, cD_6, cz_7, cI_7, cO_7, cL_7, cD_7, cz_8, cI_8, cO_8, cL_8, cD_8, List.mem_cons, or_true, true_or, and_self, sI_S, sL_S, sR_S, sD_S, gb_S, sI_R, sL_R, sD_R, gb_R, sI_L, sR_I, sR_L, sL_I, sD_I, sD_L, gb_I, gb_L, y_S20 L3, y_S20 L4, e4, e5, i10, show ¬ (100 : Int32) = 106 by decide, show ¬ (100 : Int32) = 108 by decide, show ¬ (100 : Int32) = 112 by decide, show ¬ (106 : Int32) = 100 by decide, show ¬ (106 : Int32) = 108 by decide, show ¬ (106 : Int32) = 112 by decide, show ¬ (108 : Int32) = 100 by decide, show ¬ (108 : Int32) = 106 by decide, show ¬ (108 : Int32) = 112 by decide, show ¬ (110 : Int32) = 100 by decide, show ¬ (110 : Int32) = 106 by decide, show ¬ (110 : Int32) = 108 by decide, show ¬ (110 : Int32) = 112 by decide, show ¬ (112 : Int32) = 100 by decide, show ¬ (112 : Int32) = 106 by decide, show ¬ (112 : Int32) = 108 by decide, show iN 100 = 100 by decide, show iN 106 = 106 by decide, show iN 108 = 108 by decide, show iN 110 = 110 by decide, show iN 112 = 112 by decide, if_true, if_false, not_true_eq_false, not_false_eq_true]
  rcases skS (d := d) L5 hl hs M5 P5 K5 J5 A5 (by decide) (ch := 44) (cc := 44) rfl (by decide) (by decide) with ⟨e6, q6⟩ | ⟨g6, e6, L6, M6, P6, K6, J6, R6⟩
  · refine FnE_0 ?_ M5 J5 q6
    simp only [v221_160, v221_161, v221_163, v221_166, v221_169, v221_170, v221_171, v221_172, v221_175, v221_178, v221_179, n_14, n_8, inB_of, Nat.reduceLT, Prod.mk.injEq, true_and, rB, rBn, rBa, rBb, rBc, rBd, Evk_v, Evk_n, Nat.reduceAdd, Nat.reduceLeDiff, Nat.le_refl, Nat.zero_le, cz_0, cz_1, cI_1, cO_1, cz_2, cI_2, cO_2, cL_2, cD_2, cz_3, cI_3, cO_3, cL_3, cD_3, cz_4, cI_4, cO_4, cL_4, cD_4, cz_5, cI_5, cO_5, cL_5, cD_5, cz_6, cI_6, cO_6, cL_6, cD_6, cz_7, cI_7, cO_7, cL_7, cD_7, cz_8, cI_8, cO_8, cL_8, cD_8, List.mem_cons, or_true, true_or, and_self, sI_S, sL_S, sR_S, sD_S, gb_S, sI_R, sL_R, sD_R, gb_R, sI_L, sR_I, sR_L, sL_I, sD_I, sD_L, gb_I, gb_L, y_S20 L5, e6, i10, show ¬ (100 : Int32) = 106 by decide, show ¬ (100 : Int32) = 108 by decide, show ¬ (100 : Int32) = 112 by decide, show ¬ (106 : Int32) = 100 by decide, show ¬ (106 : Int32) = 108 by decide, show ¬ (106 : Int32) = 112 by decide, show ¬ (108 : Int32) = 100 by decide, show ¬ (108 : Int32) = 106 by decide, show ¬ (108 : Int32) = 112 by decide, show ¬ (110 : Int32) = 100 by decide, show ¬ (110 : Int32) = 106 by decide, show ¬ (110 : Int32) = 108 by decide, show ¬ (110 : Int32) = 112 by decide, show ¬ (112 : Int32) = 100 by decide, show ¬ (112 : Int32) = 106 by decide, show ¬ (112 : Int32) = 108 by decide, show iN 100 = 100 by decide, show iN 106 = 106 by decide, show iN 108 = 108 by decide, show iN 110 = 110 by decide, show iN 112 = 112 by decide, if_true, if_false, not_true_eq_false, not_false_eq_true]
  rw [if_neg (show ¬ 4 + 3 + 1 = fN 2 by decide)] at R6
  rcases tdS (d := d) (p := 3) L6 hl hs he M6 P6 K6 J6 (by decide) Fm_p8 with ⟨e7, q7⟩ | ⟨g7, t7, i7, x7, e7, L7, M7, P7, K7, I7, J7, R7, A7⟩
  · have e7 : Ev (d + 1) 220 0 [some (vR (20, 0, 0)), some (vI 3), some (vI 1), none, none] [] g6 = _ := e7
    refine FnE_e rfl R6 (FnE_0 ?_ M6 J6 q7)
    simp only [v221_160, v221_161, v221_163, v221_166, v221_169, v221_170, v221_171, v221_172, v221_175, v221_178, v221_179, n_14, n_8, inB_of, Nat.reduceLT, Prod.mk.injEq, true_and, rB, rBn, rBa, rBb, rBc, rBd, Evk_v, Evk_n, Nat.reduceAdd, Nat.reduceLeDiff, Nat.le_refl, Nat.zero_le, cz_0, cz_1, cI_1, cO_1, cz_2, cI_2, cO_2, cL_2, cD_2, cz_3, cI_3, cO_3, cL_3, cD_3, cz_4, cI_4, cO_4, cL_4, cD_4, cz_5, cI_5, cO_5, cL_5, cD_5, cz_6, cI_6, cO_6, cL_6, cD_6, cz_7, cI_7, cO_7, cL_7, cD_7, cz_8, cI_8, cO_8, cL_8, cD_8, List.mem_cons, or_true, true_or, and_self, sI_S, sL_S, sR_S, sD_S, gb_S, sI_R, sL_R, sD_R, gb_R, sI_L, sR_I, sR_L, sL_I, sD_I, sD_L, gb_I, gb_L, y_S20 L5, y_S20 L6, e6, e7, i10, show ¬ (100 : Int32) = 106 by decide, show ¬ (100 : Int32) = 108 by decide, show ¬ (100 : Int32) = 112 by decide, show ¬ (106 : Int32) = 100 by decide, show ¬ (106 : Int32) = 108 by decide, show ¬ (106 : Int32) = 112 by decide, show ¬ (108 : Int32) = 100 by decide, show ¬ (108 : Int32) = 106 by decide, show ¬ (108 : Int32) = 112 by decide, show ¬ (110 : Int32) = 100 by decide, show ¬ (110 : Int32) = 106 by decide, show ¬ (110 : Int32) = 108 by decide, show ¬ (110 : Int32) = 112 by decide, show ¬ (112 : Int32) = 100 by decide, show ¬ (112 : Int32) = 106 by decide, show ¬ (112 : Int32) = 108 by decide, show iN 100 = 100 by decide, show iN 106 = 106 by decide, show iN 108 = 108 by decide, show iN 110 = 110 by decide, show iN 112 = 112 by decide, if_true, if_false, not_true_eq_false, not_false_eq_true]
  have e7 : Ev (d + 1) 220 0 [some (vR (20, 0, 0)), some (vI 3), some (vI 1), none, none] [] g6 = _ := e7
  refine FnE_e ?_ (R6.trans R7) (m221z (d := d) L7 hl hs M7 P7 K7 J7 (by omega) A7 (by decide) (by decide) (by decide) (Or.inr (Or.inr ⟨rfl, by decide⟩)))
  simp only [v221_160, v221_161, v221_163, v221_166, v221_169, v221_170, v221_171, v221_172, v221_175, v221_178, v221_179, n_14, n_8, inB_of, Nat.reduceLT, Prod.mk.injEq, true_and, rB, rBn, rBa, rBb, rBc, rBd, Evk_v, Evk_n, Nat.reduceAdd, Nat.reduceLeDiff, Nat.le_refl, Nat.zero_le, cz_0, cz_1, cI_1, cO_1, cz_2, cI_2, cO_2, cL_2, cD_2, cz_3, cI_3, cO_3, cL_3, cD_3, cz_4, cI_4, cO_4, cL_4, cD_4, cz_5, cI_5, cO_5, cL_5, cD_5, cz_6, cI_6, cO_6, cL_6, cD_6, cz_7, cI_7, cO_7, cL_7, cD_7, cz_8, cI_8, cO_8, cL_8, cD_8, List.mem_cons, or_true, true_or, and_self, sI_S, sL_S, sR_S, sD_S, gb_S, sI_R, sL_R, sD_R, gb_R, sI_L, sR_I, sR_L, sL_I, sD_I, sD_L, gb_I, gb_L, y_S20 L5, y_S20 L6, e6, e7, i10, show ¬ (100 : Int32) = 106 by decide, show ¬ (100 : Int32) = 108 by decide, show ¬ (100 : Int32) = 112 by decide, show ¬ (106 : Int32) = 100 by decide, show ¬ (106 : Int32) = 108 by decide, show ¬ (106 : Int32) = 112 by decide, show ¬ (108 : Int32) = 100 by decide, show ¬ (108 : Int32) = 106 by decide, show ¬ (108 : Int32) = 112 by decide, show ¬ (110 : Int32) = 100 by decide, show ¬ (110 : Int32) = 106 by decide, show ¬ (110 : Int32) = 108 by decide, show ¬ (110 : Int32) = 112 by decide, show ¬ (112 : Int32) = 100 by decide, show ¬ (112 : Int32) = 106 by decide, show ¬ (112 : Int32) = 108 by decide, show iN 100 = 100 by decide, show iN 106 = 106 by decide, show iN 108 = 108 by decide, show iN 110 = 110 by decide, show iN 112 = 112 by decide, if_true, if_false, not_true_eq_false, not_false_eq_true]
theorem fO_w {w : Nat} (h : fO w ≠ 0) : w = 100 ∨ w = 106 ∨ w = 108 ∨ w = 110 ∨ w = 112 := by
  unfold fO at h
  split at h
  · omega
  split at h
  · omega
  split at h
  · omega
  split at h
  · omega
  split at h
  · omega
  · exact absurd rfl h
theorem fO_n {w : Nat} (h : fO w = 0) : w ≠ 100 ∧ w ≠ 106 ∧ w ≠ 108 ∧ w ≠ 110 ∧ w ≠ 112 := by
  refine ⟨?_, ?_, ?_, ?_, ?_⟩ <;> (rintro rfl; exact absurd h (by decide))
/-- an entry -/
theorem m221 (hL : Lay L xs g) (hl : l ≤ 60) (hs : ∀ j, j < l → s j < 127) (m : MT s l g0 g i e) (hi : i ≤ l) (h3 : 3 * e ≤ i) (h0 : i < l ∨ e = 0) (ht : t.1 = 0) (ee : t.2.2.2.1 = e) : FnE s l g0 g t.2.2.2.2 i e (Ev (d + 2) 221 0 [some (vR (20, 0, 0)), none] [] g) (RA s l t i) := by
  by_cases y : i < l
  · have he : e < 20 := by omega
    have h127 := hs i y
    by_cases z : fO (s i) = 0
    · obtain ⟨z1, z2, z3, z4, z5⟩ := fO_n z
      have e218 : ∀ d, Ev d 218 0 [some (vR (20, 0, 0))] [] g = some (.inl (some (vI (iN (s i)))), g) := fun d => by
        rw [m218 hL m hl hi]
        unfold sg
        rw [if_pos y]
      have c1 : (iN (s i) = 106) = (s i = 106) := iN_inj (b := 106) (by omega) (by decide)
      have c2 : (iN (s i) = 108) = (s i = 108) := iN_inj (b := 108) (by omega) (by decide)
      have c3 : (iN (s i) = 112) = (s i = 112) := iN_inj (b := 112) (by omega) (by decide)
      have c4 : (iN (s i) = 110) = (s i = 110) := iN_inj (b := 110) (by omega) (by decide)
      have c5 : (iN (s i) = 100) = (s i = 100) := iN_inj (b := 100) (by omega) (by decide)
      refine FnE_0 ?_ m hi ?_
      · simp only [v221_0, v221_1, v221_4, v221_5, v221_6, v221_8, v221_11, v221_12, v221_14, v221_17, v221_18, v221_20, v221_23, v221_24, v221_26, v221_29, v221_30, v221_32, v221_35, v221_36, n_14, n_8, inB_of, Nat.reduceLT, Prod.mk.injEq, true_and, rB, rBn, rBa, rBb, rBc, rBd, Evk_v, Evk_n, Nat.reduceAdd, Nat.reduceLeDiff, Nat.le_refl, Nat.zero_le, cz_0, cz_1, cI_1, cO_1, cz_2, cI_2, cO_2, cL_2, cD_2, cz_3, cI_3, cO_3, cL_3, cD_3, cz_4, cI_4, cO_4, cL_4, cD_4, cz_5, cI_5, cO_5, cL_5, cD_5, cz_6, cI_6, cO_6, cL_6, cD_6, cz_7, cI_7, cO_7, cL_7, cD_7, cz_8, cI_8, cO_8, cL_8, cD_8, List.mem_cons, or_true, true_or, and_self, sI_S, sL_S, sR_S, sD_S, gb_S, sI_R, sL_R, sD_R, gb_R, sI_L, sR_I, sR_L, sL_I, sD_I, sD_L, gb_I, gb_L, y_S20 hL, e218, c1, c2, c3, c4, c5, if_neg z1, if_neg z2, if_neg z3, if_neg z4, if_neg z5]
      · rw [RA_n y]
        · rfl
        · unfold acc
          rw [if_pos ht, if_pos (Or.inl z)]
    · rcases fO_w z with w | w | w | w | w
      · exact en_d hL hl hs he m y ht ee w
      · exact en_106 hL hl hs he m y ht ee w
      · exact en_108 hL hl hs he m y ht ee w
      · exact en_n hL hl hs he m y ht ee w
      · exact en_p hL hl hs he m y ht ee w
  · have hil : i = l := by omega
    have e0 : e = 0 := by omega
    have e218 : ∀ d, Ev d 218 0 [some (vR (20, 0, 0))] [] g = some (.inl (some (vI (-1))), g) := fun d => by
      rw [m218 hL m hl hi]
      unfold sg
      rw [if_neg y]
    refine FnE_0 ?_ m hi ?_
    · simp only [v221_0, v221_1, v221_4, v221_5, v221_6, v221_8, v221_11, v221_12, v221_14, v221_17, v221_18, v221_20, v221_23, v221_24, v221_26, v221_29, v221_30, v221_32, v221_35, v221_36, n_14, n_8, inB_of, Nat.reduceLT, Prod.mk.injEq, true_and, rB, rBn, rBa, rBb, rBc, rBd, Evk_v, Evk_n, Nat.reduceAdd, Nat.reduceLeDiff, Nat.le_refl, Nat.zero_le, cz_0, cz_1, cI_1, cO_1, cz_2, cI_2, cO_2, cL_2, cD_2, cz_3, cI_3, cO_3, cL_3, cD_3, cz_4, cI_4, cO_4, cL_4, cD_4, cz_5, cI_5, cO_5, cL_5, cD_5, cz_6, cI_6, cO_6, cL_6, cD_6, cz_7, cI_7, cO_7, cL_7, cD_7, cz_8, cI_8, cO_8, cL_8, cD_8, List.mem_cons, or_true, true_or, and_self, sI_S, sL_S, sR_S, sD_S, gb_S, sI_R, sL_R, sD_R, gb_R, sI_L, sR_I, sR_L, sL_I, sD_I, sD_L, gb_I, gb_L, y_S20 hL, e218, show ¬ (-1 : Int32) = 106 by decide, show ¬ (-1 : Int32) = 108 by decide, show ¬ (-1 : Int32) = 112 by decide, show ¬ (-1 : Int32) = 110 by decide, show ¬ (-1 : Int32) = 100 by decide, if_false]
    · subst hil
      rw [RA_l]
      show (if t.1 = 0 ∧ 0 < t.2.2.2.1 then (-1 : Int32) else iN i) = iN i
      rw [if_neg]
      rintro ⟨-, z⟩
      omega
end R6
