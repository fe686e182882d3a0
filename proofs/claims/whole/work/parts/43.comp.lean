/-! THE TWO SEARCHES FIND THE SAME: the search of the class -/

def CF (P : PL) (S : Int32) : Prop := ∀ i k, i < k → k < 32 → bt S i = true → bt S k = true → ¬ bt (P.1 4 i) k = true
def Cand (P : PL) (j : Nat) (ch J : Int32) (n : Nat) (S : Int32) : Prop := sub 14 S ∧ (∀ i, i < 32 → bt S i = true → bt J i = true) ∧ pcn S = n ∧ CF P S ∧ hld P j (P.1 11 j ||| ch ||| S) = true
def Fst (a b : Int32) : Prop := ∃ i, i < 14 ∧ bt a i = true ∧ bt b i = false ∧ ∀ k, k < i → bt a k = bt b k
theorem bfalse {b : Bool} (h : ¬ b = true) : b = false := eq_false_of_ne_true h
theorem bt_lf {J : Int32} {i : Nat} (hi : i < 32) : ∀ k, k ≤ 32 → (bt (lf J k) i = true ↔ bt J i = true ∧ k ≤ i) := by
  intro k
  induction k with
  | zero => intro _; exact ⟨fun h => ⟨h, Nat.zero_le _⟩, fun h => h.1⟩
  | succ k ih =>
    intro hk
    have ih := ih (by omega)
    unfold lf
    by_cases z : bt (lf J k) k = true
    · rw [if_pos z, bt_and hi, bt_not hi, bt_b1 k (by omega) i hi, ih]
      exact ⟨fun h => ⟨h.1.1, by have := h.1.2; have := h.2; omega⟩, fun h => ⟨⟨h.1, by omega⟩, by omega⟩⟩
    · rw [if_neg z, ih]
      refine ⟨fun h => ⟨h.1, ?_⟩, fun h => ⟨h.1, by omega⟩⟩
      have : ¬ i = k := fun e => by
        subst e
        exact z (ih.2 h)
      omega
theorem pcn_mono {a b : Int32} (h : ∀ i, i < 14 → bt a i = true → bt b i = true) : pcn a ≤ pcn b := cn_mono h
theorem has_mono {P : PL} {j w : Nat} {a b : Int32} (h : ∀ i, i < 14 → bt a i = true → bt b i = true) : has P j a w ≤ has P j b w := cn_mono fun i hi z => by
  unfold hasf at z ⊢
  rw [Bool.and_eq_true] at z ⊢
  exact ⟨h i hi z.1, z.2⟩
theorem has_pcn {P : PL} {j w : Nat} {a : Int32} : has P j a w ≤ pcn a := cn_mono fun i hi z => by
  unfold hasf at z
  rw [Bool.and_eq_true] at z
  exact z.1
theorem cn_or {c e f : Nat → Bool} {n : Nat} (h : ∀ k, k < n → f k = true → c k = true ∨ e k = true) : cn f n ≤ cn c n + cn e n := by
  induction n with
  | zero => exact Nat.zero_le _
  | succ n ih =>
    have h1 := ih fun k hk => h k (by omega)
    have h2 := h n (by omega)
    show cn f n + (f n).toNat ≤ cn c n + (c n).toNat + (cn e n + (e n).toNat)
    revert h2
    cases f n <;> cases c n <;> cases e n <;> simp <;> omega
theorem has_or {P : PL} {j w : Nat} {a b : Int32} : has P j (a ||| b) w ≤ has P j a w + has P j b w := cn_or fun i hi z => by
  unfold hasf at z ⊢
  rw [Bool.and_eq_true, bt_or (by omega)] at z
  rw [Bool.and_eq_true, Bool.and_eq_true]
  exact z.1.elim (fun y => Or.inl ⟨y, z.2⟩) (fun y => Or.inr ⟨y, z.2⟩)
theorem has_le {P : PL} {j w : Nat} {a : Int32} : has P j a w ≤ 14 := cn_le
theorem hop_no {P : PL} (hW : WF P) {j n : Nat} {ch J S : Int32} (hj : j < 8) (hn : n < 15) (h : hop P j (P.1 11 j ||| ch) J n = true) : ¬ Cand P j ch J n S := by
  rintro ⟨s1, s2, s3, -, s5⟩
  have hJ : ∀ i, i < 14 → bt S i = true → bt J i = true := fun i hi => s2 i (by omega)
  have p1 := pcn_mono hJ
  unfold hop at h
  rw [Bool.or_eq_true, dect] at h
  rcases h with h | h
  · omega
  · cases e : fnd (hpc P j (P.1 11 j ||| ch) J n) 5 with
    | none => rw [e] at h; cases h
    | some w =>
      obtain ⟨w1, w2, -⟩ := fnd_some.1 e
      obtain ⟨b, hb, eb⟩ := nq_N hW hj w1
      have q := hld_t.1 s5 w w1
      have q1 := has_or (P := P) (j := j) (w := w) (a := P.1 11 j ||| ch) (b := S)
      have q2 := has_mono (P := P) (j := j) (w := w) hJ
      have q3 := has_pcn (P := P) (j := j) (w := w) (a := S)
      have q4 := has_le (P := P) (j := j) (w := w) (a := P.1 11 j ||| ch)
      have q5 := has_le (P := P) (j := j) (w := w) (a := P.1 11 j ||| ch ||| S)
      have q6 := has_le (P := P) (j := j) (w := w) (a := J)
      rw [eb, iN_le (by omega) (by omega)] at q
      unfold hpc at w2
      rw [Bool.or_eq_true, dect, dect, eb, Int32.lt_iff_toInt_lt, Int32.lt_iff_toInt_lt, sub_i (by omega) (by omega), iN_i (by omega), iN_i (by omega)] at w2
      omega
theorem hop_0 {P : PL} (hW : WF P) {j : Nat} {s J : Int32} (hj : j < 8) (h : ¬ hop P j s J 0 = true) : hld P j s = true := by
  unfold hop at h
  rw [Bool.or_eq_true, not_or] at h
  refine hld_t.2 fun w hw => ?_
  cases e : fnd (hpc P j s J 0) 5 with
  | some k => rw [e] at h; exact absurd rfl h.2
  | none =>
    have z := fnd_none.1 e w hw
    obtain ⟨b, hb, eb⟩ := nq_N hW hj hw
    have q4 := has_le (P := P) (j := j) (w := w) (a := s)
    unfold hpc at z
    rw [Bool.or_eq_false_iff, decf, decf, eb, Int32.lt_iff_toInt_lt, sub_i (by omega) (by omega), iN_i (by omega)] at z
    rw [eb, iN_le (by omega) (by omega)]
    omega
theorem pcn_0 {S : Int32} (hS : sub 14 S) (h : pcn S = 0) : S = 0 := by
  refine bt_ext fun i hi => ⟨fun z => ?_, fun z => absurd z (bt_0 i hi)⟩
  by_cases y : i < 14
  · have := cn_but (c := fun i => bt S i) y
    rw [show cn (fun i => bt S i) 14 = pcn S from rfl, h, z] at this
    simp at this
  · exact absurd z (hS i (by omega) hi)
theorem pcn_z : pcn 0 = 0 := by decide
theorem pcn_rm {S : Int32} {k : Nat} (hk : k < 14) (h : bt S k = true) : pcn S = pcn (S &&& (b1 k ^^^ -1)) + 1 := by
  have := cn_but (c := fun i => bt S i) hk
  rw [h] at this
  unfold pcn
  rw [this]
  refine congrArg (· + 1) (cn_congr fun i hi => ?_)
  rw [Bool.eq_iff_iff, bt_and (by omega), bt_not (by omega), bt_b1 k (by omega) i (by omega), Bool.and_eq_true, dect]
  exact ⟨fun h => ⟨h.2, fun e => h.1 e.symm⟩, fun h => ⟨fun e => h.2 e.symm, h.1⟩⟩
theorem least {S : Int32} (hS : sub 14 S) (h : 0 < pcn S) : ∃ k, k < 14 ∧ bt S k = true ∧ ∀ i, i < k → bt S i = false := by
  cases e : fnd (fun i => bt S i) 14 with
  | some k => exact ⟨k, fnd_some.1 e⟩
  | none =>
    have : pcn S = 0 := by
      unfold pcn
      rw [cn_congr (e := fun _ => false) fun i hi => fnd_none.1 e i hi]
      decide
    omega
/-- the set without its least member is a candidate of the level below, and back -/
theorem cand_dn {P : PL} {j n k : Nat} {ch J S : Int32} (c : Cand P j ch J (n + 1) S) (hk : k < 14) (h1 : bt S k = true) (h2 : ∀ i, i < k → bt S i = false) : bt (lf J k) k = true ∧ Cand P j (ch ||| b1 k) (lf J k &&& (b1 k ^^^ -1) &&& (P.1 4 k ^^^ -1)) n (S &&& (b1 k ^^^ -1)) := by
  obtain ⟨c1, c2, c3, c4, c5⟩ := c
  refine ⟨(bt_lf (by omega) k (by omega)).2 ⟨c2 k (by omega) h1, Nat.le_refl k⟩, sub_and c1, fun i hi z => ?_, ?_, ?_, ?_⟩
  · rw [bt_and hi, bt_not hi, bt_b1 k (by omega) i hi] at z
    have hik : k < i := by
      rcases Nat.lt_trichotomy k i with y | y | y
      · exact y
      · exact absurd y z.2
      · rw [h2 i y] at z; exact absurd z.1 Bool.false_ne_true
    rw [bt_and hi, bt_and hi, bt_not hi, bt_not hi, bt_b1 k (by omega) i hi, bt_lf hi k (by omega)]
    exact ⟨⟨⟨c2 i hi z.1, by omega⟩, z.2⟩, c4 k i hik hi h1 z.1⟩
  · have := pcn_rm hk h1
    omega
  · intro a b hab hb za zb
    rw [bt_and (by omega)] at za zb
    exact c4 a b hab hb za.1 zb.1
  · have : P.1 11 j ||| (ch ||| b1 k) ||| S &&& (b1 k ^^^ -1) = P.1 11 j ||| ch ||| S := by
      refine bt_ext fun i hi => ?_
      rw [bt_or hi, bt_or hi, bt_or hi, bt_or hi, bt_or hi, bt_and hi, bt_not hi, bt_b1 k (by omega) i hi]
      by_cases y : k = i
      · subst y; simp [h1]
      · simp [y]
    rw [this]; exact c5
theorem cand_up {P : PL} {j n k : Nat} {ch J T : Int32} (hk : k < 14) (h1 : bt (lf J k) k = true) (c : Cand P j (ch ||| b1 k) (lf J k &&& (b1 k ^^^ -1) &&& (P.1 4 k ^^^ -1)) n T) : Cand P j ch J (n + 1) (b1 k ||| T) ∧ ∀ i, i < 32 → bt T i = true → k < i := by
  obtain ⟨c1, c2, c3, c4, c5⟩ := c
  have ab : ∀ i, i < 32 → bt T i = true → k < i ∧ bt J i = true ∧ ¬ bt (P.1 4 k) i = true := fun i hi z => by
    have := c2 i hi z
    rw [bt_and hi, bt_and hi, bt_not hi, bt_not hi, bt_b1 k (by omega) i hi, bt_lf hi k (by omega)] at this
    exact ⟨by omega, this.1.1.1, this.2⟩
  have nk : bt T k = false := bfalse fun z => absurd (ab k (by omega) z).1 (Nat.lt_irrefl k)
  refine ⟨⟨sub_or (sub_b1 hk (by decide)) c1, fun i hi z => ?_, ?_, ?_, ?_⟩, fun i hi z => (ab i hi z).1⟩
  · rw [bt_or hi, bt_b1 k (by omega) i hi] at z
    rcases z with z | z
    · subst z; exact ((bt_lf hi k (by omega)).1 h1).1
    · exact (ab i hi z).2.1
  · rw [pcn_rm (k := k) hk (by rw [bt_or (by omega)]; exact Or.inl ((bt_b1 k (by omega) k (by omega)).2 rfl))]
    have : (b1 k ||| T) &&& (b1 k ^^^ -1) = T := by
      refine bt_ext fun i hi => ?_
      rw [bt_and hi, bt_or hi, bt_not hi, bt_b1 k (by omega) i hi]
      by_cases y : k = i
      · subst y; simp [nk]
      · simp [y]
    rw [this, c3]
  · intro a b hab hb za zb
    rw [bt_or (by omega), bt_b1 k (by omega) a (by omega)] at za
    rw [bt_or hb, bt_b1 k (by omega) b hb] at zb
    rcases za with za | za
    · subst za
      rcases zb with zb | zb
      · omega
      · exact (ab b hb zb).2.2
    · rcases zb with zb | zb
      · subst zb
        have := (ab a (by omega) za).1
        omega
      · exact c4 a b hab hb za zb
  · have : P.1 11 j ||| ch ||| (b1 k ||| T) = P.1 11 j ||| (ch ||| b1 k) ||| T := by
      refine bt_ext fun i hi => ?_
      rw [bt_or hi, bt_or hi, bt_or hi, bt_or hi, bt_or hi, bt_or hi]
      simp only [or_assoc]
    rw [this]; exact c5
theorem sub_ne {S : Int32} (h : sub 14 S) : ¬ S = -1 := fun z => by
  subst z
  exact h 20 (by decide) (by decide) (by decide)
theorem chs_ok {P : PL} (hW : WF P) {j : Nat} (hj : j < 8) : ∀ n, n < 15 → ∀ ch J, sub 14 ch → sub 14 J → (chs P j n ch J = -1 ∧ ∀ S, ¬ Cand P j ch J n S) ∨ ∃ S, Cand P j ch J n S ∧ chs P j n ch J = ch ||| S ∧ ∀ S', Cand P j ch J n S' → S' = S ∨ Fst S S' := by
  intro n
  induction n with
  | zero =>
    intro _ ch J hch hJ
    unfold chs
    by_cases z : hop P j (P.1 11 j ||| ch) J 0 = true
    · rw [if_pos z]
      exact Or.inl ⟨rfl, fun S => hop_no hW hj (by decide) z⟩
    · rw [if_neg z]
      refine Or.inr ⟨0, ⟨sub_0, fun i hi y => absurd y (bt_0 i hi), pcn_z, fun i k hik hk y => absurd y (bt_0 i (by omega)), ?_⟩, Int32.or_zero.symm, fun S' c => Or.inl (pcn_0 c.1 c.2.2.1)⟩
      rw [Int32.or_zero]
      exact hop_0 hW hj z
  | succ n ih =>
    intro hn ch J hch hJ
    have ih := ih (by omega)
    have ihk := fun k (hk : k < 14) => ih (ch ||| b1 k) (lf J k &&& (b1 k ^^^ -1) &&& (P.1 4 k ^^^ -1)) (sub_or hch (sub_b1 hk (by decide))) (sub_and (sub_and (lf_sub hJ k)))
    unfold chs
    by_cases z : hop P j (P.1 11 j ||| ch) J (n + 1) = true
    · rw [if_pos z]
      exact Or.inl ⟨rfl, fun S => hop_no hW hj hn z⟩
    · rw [if_neg z]
      have key : ∀ S k, Cand P j ch J (n + 1) S → k < 14 → bt S k = true → (∀ i, i < k → bt S i = false) → (bt (lf J k) k && decide (¬ chs P j n (ch ||| b1 k) (lf J k &&& (b1 k ^^^ -1) &&& (P.1 4 k ^^^ -1)) = -1)) = true := fun S k c hk h1 h2 => by
        obtain ⟨d1, d2⟩ := cand_dn c hk h1 h2
        rw [Bool.and_eq_true, dect]
        refine ⟨d1, fun y => ?_⟩
        rcases ihk k hk with ⟨-, no⟩ | ⟨T, cT, eT, -⟩
        · exact no _ d2
        · rw [eT] at y
          exact sub_ne (sub_or (sub_or hch (sub_b1 hk (by decide))) cT.1) y
      cases e : fnd (fun k => bt (lf J k) k && decide (¬ chs P j n (ch ||| b1 k) (lf J k &&& (b1 k ^^^ -1) &&& (P.1 4 k ^^^ -1)) = -1)) 14 with
      | none =>
        refine Or.inl ⟨rfl, fun S c => ?_⟩
        obtain ⟨k, hk, h1, h2⟩ := least c.1 (by rw [c.2.2.1]; omega)
        have := fnd_none.1 e k hk
        rw [key S k c hk h1 h2] at this
        cases this
      | some k =>
        obtain ⟨hk, hc, hl⟩ := fnd_some.1 e
        rw [Bool.and_eq_true, dect] at hc
        rcases ihk k hk with ⟨y, -⟩ | ⟨T, cT, eT, bT⟩
        · exact absurd y hc.2
        obtain ⟨cS, aT⟩ := cand_up hk hc.1 cT
        refine Or.inr ⟨b1 k ||| T, cS, by rw [← Int32.or_assoc]; exact eT, fun S' c' => ?_⟩
        have bk : bt (b1 k ||| T) k = true := by rw [bt_or (by omega)]; exact Or.inl ((bt_b1 k (by omega) k (by omega)).2 rfl)
        have bl : ∀ i, i < k → bt (b1 k ||| T) i = false := fun i hi => bfalse fun y => by
          rw [bt_or (by omega), bt_b1 k (by omega) i (by omega)] at y
          rcases y with y | y
          · omega
          · have := aT i (by omega) y; omega
        obtain ⟨m, hm, m1, m2⟩ := least c'.1 (by rw [c'.2.2.1]; omega)
        rcases Nat.lt_trichotomy m k with w | w | w
        · have := hl m w
          rw [key S' m c' hm m1 m2] at this
          cases this
        · subst w
          obtain ⟨-, d2⟩ := cand_dn c' hm m1 m2
          have tb : ∀ i, i < 32 → i ≠ m → (bt S' i = true ↔ bt (S' &&& (b1 m ^^^ -1)) i = true) := fun i hi hne => by
            rw [bt_and hi, bt_not hi, bt_b1 m (by omega) i hi]
            exact ⟨fun y => ⟨y, fun q => hne q.symm⟩, fun y => y.1⟩
          have tb' : ∀ i, i < 32 → i ≠ m → (bt (b1 m ||| T) i = true ↔ bt T i = true) := fun i hi hne => by
            rw [bt_or hi, bt_b1 m (by omega) i hi]
            exact ⟨fun y => y.resolve_left fun q => hne q.symm, Or.inr⟩
          rcases bT _ d2 with q | ⟨i, hi, i1, i2, i3⟩
          · refine Or.inl (bt_ext fun i hi => ?_)
            by_cases hne : i = m
            · subst hne; exact ⟨fun _ => bk, fun _ => m1⟩
            · rw [tb i hi hne, tb' i hi hne, q]
          · have him := aT i (by omega) i1
            refine Or.inr ⟨i, hi, (tb' i (by omega) (by omega)).2 i1, bfalse fun y => ?_, fun a ha => ?_⟩
            · rw [tb i (by omega) (by omega), i2] at y; cases y
            · by_cases hne : a = m
              · subst hne; rw [bk, m1]
              · rw [Bool.eq_iff_iff, tb a (by omega) hne, tb' a (by omega) hne, i3 a ha]
        · exact Or.inr ⟨k, hk, bk, m2 k w, fun i hi => by rw [bl i hi, m2 i (by omega)]⟩
