/-! THE TWO SEARCHES FIND THE SAME: the model's, and both -/

def Gd (P : PL) (j : Nat) (S : Int32) : Prop := Cand P j 0 (pjn P j (P.1 11 j)) (pcn S) S ∧ pcn S ≤ mxn P j
def Btr (a b : Int32) : Prop := b = a ∨ pcn a < pcn b ∨ (pcn a = pcn b ∧ Fst a b)
theorem Fst_as {a b : Int32} (h1 : Fst a b) (h2 : Fst b a) : False := by
  obtain ⟨i, hi, a1, a2, a3⟩ := h1
  obtain ⟨k, hk, b1, b2, b3⟩ := h2
  rcases Nat.lt_trichotomy i k with w | w | w
  · rw [b3 i w, a1] at a2; cases a2
  · subst w; rw [a1] at b2; cases b2
  · rw [a3 k w, b1] at b2; cases b2
theorem Fst_tr {a b c : Int32} (h1 : Fst a b) (h2 : Fst b c) : Fst a c := by
  obtain ⟨i, hi, a1, a2, a3⟩ := h1
  obtain ⟨k, hk, b1, b2, b3⟩ := h2
  rcases Nat.lt_trichotomy i k with w | w | w
  · exact ⟨i, hi, a1, by rw [← b3 i w]; exact a2, fun m hm => (a3 m hm).trans (b3 m (by omega))⟩
  · subst w; rw [a2] at b1; cases b1
  · exact ⟨k, hk, by rw [a3 k w]; exact b1, b2, fun m hm => (a3 m (by omega)).trans (b3 m hm)⟩
theorem Btr_as {a b : Int32} (h1 : Btr a b) (h2 : Btr b a) : a = b := by
  rcases h1 with h1 | h1 | ⟨e1, h1⟩
  · exact h1.symm
  · rcases h2 with h2 | h2 | ⟨e2, h2⟩
    · exact h2
    · omega
    · omega
  · rcases h2 with h2 | h2 | ⟨e2, h2⟩
    · exact h2
    · omega
    · exact (Fst_as h1 h2).elim
theorem Btr_tr {a b c : Int32} (h1 : Btr a b) (h2 : Btr b c) : Btr a c := by
  rcases h1 with h1 | h1 | ⟨e1, h1⟩
  · subst h1; exact h2
  · rcases h2 with h2 | h2 | ⟨e2, h2⟩
    · subst h2; exact Or.inr (Or.inl h1)
    · exact Or.inr (Or.inl (by omega))
    · exact Or.inr (Or.inl (by omega))
  · rcases h2 with h2 | h2 | ⟨e2, h2⟩
    · subst h2; exact Or.inr (Or.inr ⟨e1, h1⟩)
    · exact Or.inr (Or.inl (by omega))
    · exact Or.inr (Or.inr ⟨by omega, Fst_tr h1 h2⟩)
theorem frb_t {a b : Int32} (h : frb a b = true) : Fst a b := by
  unfold frb at h
  cases e : fnd (fun k => bt a k != bt b k) 14 with
  | none => rw [e] at h; cases h
  | some k =>
    rw [e] at h
    obtain ⟨h1, h2, h3⟩ := fnd_some.1 e
    simp only at h
    refine ⟨k, h1, h, ?_, fun i hi => ?_⟩
    · rw [h] at h2
      revert h2; cases bt b k <;> simp
    · have := h3 i hi
      revert this; cases bt a i <;> cases bt b i <;> simp
theorem frb_f {a b : Int32} (h : frb a b = false) (hne : ∃ k, k < 14 ∧ bt a k ≠ bt b k) : Fst b a := by
  unfold frb at h
  cases e : fnd (fun k => bt a k != bt b k) 14 with
  | none =>
    obtain ⟨k, hk, hne⟩ := hne
    have := fnd_none.1 e k hk
    revert this hne
    cases bt a k <;> cases bt b k <;> simp
  | some k =>
    rw [e] at h
    obtain ⟨h1, h2, h3⟩ := fnd_some.1 e
    simp only at h
    refine ⟨k, h1, ?_, h, fun i hi => ?_⟩
    · rw [h] at h2
      revert h2; cases bt b k <;> simp
    · have := h3 i hi
      revert this; cases bt a i <;> cases bt b i <;> simp
theorem fdc_ok {P : PL} (hW : WF P) {j : Nat} (hj : j < tn P) : (fdc P j = -1 ∧ ∀ S, ¬ Gd P j S) ∨ ∃ S, Gd P j S ∧ fdc P j = S ∧ ∀ S', Gd P j S' → Btr S S' := by
  have hj8 : j < 8 := Nat.lt_of_lt_of_le hj (w_tn hW)
  obtain ⟨b, hb, -, -, emx, -⟩ := cmo_N hW hj
  have ok := fun n (hn : n < mxn P j + 1) => chs_ok hW hj8 n (by omega) 0 (pjn P j (P.1 11 j)) sub_0 (pjn_14 hW)
  unfold fdc
  cases e : fnd (fun n => decide (¬ chs P j n 0 (pjn P j (P.1 11 j)) = -1)) (mxn P j + 1) with
  | none =>
    refine Or.inl ⟨rfl, fun S g => ?_⟩
    have := fnd_none.1 e (pcn S) (by have := g.2; omega)
    rw [decf, Decidable.not_not] at this
    rcases ok (pcn S) (by have := g.2; omega) with ⟨-, no⟩ | ⟨T, cT, eT, -⟩
    · exact no S g.1
    · rw [eT] at this
      exact sub_ne (sub_or sub_0 cT.1) this
  | some n =>
    obtain ⟨h1, h2, h3⟩ := fnd_some.1 e
    rw [dect] at h2
    rcases ok n h1 with ⟨y, -⟩ | ⟨S, cS, eS, bS⟩
    · exact absurd y h2
    have en : pcn S = n := cS.2.2.1
    refine Or.inr ⟨S, ⟨by rw [en]; exact cS, by omega⟩, by rw [← Int32.zero_or (a := S)]; exact eS, fun S' g' => ?_⟩
    by_cases w : pcn S' < n
    · have := h3 (pcn S') w
      rw [decf, Decidable.not_not] at this
      rcases ok (pcn S') (by omega) with ⟨-, no⟩ | ⟨T, cT, eT, -⟩
      · exact absurd g'.1 (no S')
      · rw [eT] at this
        exact absurd this (sub_ne (sub_or sub_0 cT.1))
    · by_cases w2 : pcn S' = n
      · have := g'.1
        rw [w2] at this
        rcases bS S' this with q | q
        · exact Or.inl q
        · exact Or.inr (Or.inr ⟨by omega, q⟩)
      · exact Or.inr (Or.inl (by omega))
theorem why_0 {P : PL} {j i : Nat} {s : Int32} : why P j i s = 0 ↔ ¬ bt s i = true ∧ ¬ (iN i = P.1 9 j ∧ ¬ P.1 6 j = 0) ∧ ¬ (P.1 4 i >>> (P.1 9 j &&& 31)) &&& 1 = 1 ∧ P.1 4 i &&& s = 0 ∧ iN (pcn (cmt P i j)) < P.1 3 i ∧ iN (pcn s) < most P j ∧ ¬ (pld P j = true ∧ ¬ fre P i (P.1 13 j).toNatClampNeg (P.1 14 j).toNatClampNeg j) ∧ ¬ dfd P j = true := by
  unfold why
  by_cases a1 : bt s i = true
  · rw [if_pos a1]
    exact ⟨fun h => absurd h (by decide), fun h => absurd a1 h.1⟩
  rw [if_neg a1]
  by_cases a2 : iN i = P.1 9 j ∧ ¬ P.1 6 j = 0
  · rw [if_pos a2]
    exact ⟨fun h => absurd h (by decide), fun h => absurd a2 h.2.1⟩
  rw [if_neg a2]
  by_cases a3 : (P.1 4 i >>> (P.1 9 j &&& 31)) &&& 1 = 1
  · rw [if_pos a3]
    exact ⟨fun h => absurd h (by decide), fun h => absurd a3 h.2.2.1⟩
  rw [if_neg a3]
  by_cases a4 : P.1 4 i &&& s = 0
  · rw [if_pos a4]
    by_cases a5 : iN (pcn (cmt P i j)) < P.1 3 i
    · rw [if_pos a5]
      by_cases a6 : iN (pcn s) < most P j
      · rw [if_pos a6]
        by_cases a7 : pld P j = true ∧ ¬ fre P i (P.1 13 j).toNatClampNeg (P.1 14 j).toNatClampNeg j
        · rw [if_pos a7]
          exact ⟨fun h => absurd h (by decide), fun h => absurd a7 h.2.2.2.2.2.2.1⟩
        rw [if_neg a7]
        by_cases a8 : dfd P j = true
        · rw [if_pos a8]
          exact ⟨fun h => absurd h (by decide), fun h => absurd a8 h.2.2.2.2.2.2.2⟩
        · rw [if_neg a8]
          exact ⟨fun _ => ⟨a1, a2, a3, a4, a5, a6, a7, a8⟩, fun _ => rfl⟩
      · rw [if_neg a6]
        exact ⟨fun h => absurd h (by decide), fun h => absurd h.2.2.2.2.2.1 a6⟩
    · rw [if_neg a5]
      exact ⟨fun h => absurd h (by decide), fun h => absurd h.2.2.2.2.1 a5⟩
  · rw [if_neg a4]
    exact ⟨fun h => absurd h (by decide), fun h => absurd h.2.2.2.1 a4⟩
theorem and0 {a b : Int32} : a &&& b = 0 ↔ ∀ i, i < 32 → bt a i = true → ¬ bt b i = true := by
  refine ⟨fun h i hi z y => ?_, fun h => bt_ext fun i hi => ⟨fun z => ?_, fun z => absurd z (bt_0 i hi)⟩⟩
  · have : bt (a &&& b) i = true := (bt_and hi).2 ⟨z, y⟩
    rw [h] at this
    exact bt_0 i hi this
  · rw [bt_and hi] at z
    exact absurd z.2 (h i hi z.1)
theorem bt_nw {P : PL} {j : Nat} {S : Int32} {k i : Nat} (hi : i < 32) (hk : k ≤ 32) : bt (nw P j S k) i = true ↔ bt (P.1 11 j) i = true ∨ (i < k ∧ bt S i = true) := by
  rw [bt_orf hi]
  refine or_congr_right ⟨?_, fun ⟨h1, h2⟩ => ⟨i, h1, ?_⟩⟩
  · rintro ⟨m, hm, z⟩
    unfold nwf at z
    by_cases y : bt S m = true
    · rw [if_pos y, bt_b1 m (by omega) i hi] at z
      subst z; exact ⟨hm, y⟩
    · rw [if_neg y] at z; exact absurd z (bt_0 i hi)
  · unfold nwf
    rw [if_pos h2]
    exact (bt_b1 i hi i hi).2 rfl
theorem mo_nat {P : PL} (hW : WF P) {j : Nat} (hj : j < tn P) : most P j = iN (mon P j) ∧ mon P j ≤ 7 ∧ pcn (P.1 11 j) ≤ mon P j ∧ mxn P j = mon P j - pcn (P.1 11 j) := by
  obtain ⟨b, hb, eb, e2, e3, -⟩ := cmo_N hW hj
  have : mon P j = b := by unfold mon; rw [eb, n_i (by omega)]
  rw [this]
  exact ⟨eb, hb, e2, e3⟩
theorem pcn_or {a b : Int32} : pcn (a ||| b) ≤ pcn a + pcn b := cn_or fun i hi z => by
  rw [bt_or (by omega)] at z; exact z
theorem Gd_iff {P : PL} (hW : WF P) {j m : Nat} (hj : j < tn P) (hm : m < 2 ^ pn P) : Gd P j (iN m) ↔ iN m &&& P.1 11 j = 0 ∧ ¬ (mon P j < pcn (iN m) + pcn (P.1 11 j) ∧ ¬ m = 0) ∧ dcp P j (iN m) = true := by
  have hj8 : j < 8 := Nat.lt_of_lt_of_le hj (w_tn hW)
  have h14 := w_pn hW
  obtain ⟨e1, e2, e3, e4⟩ := mo_nat hW hj
  have sS : sub (pn P) (iN m) := N_sub (by omega) hm
  generalize eS : iN m = S at sS ⊢
  have inS : ∀ i, i < 32 → bt S i = true → i < pn P := fun i hi z => Decidable.byContradiction fun y => sS i (by omega) hi z
  have hbt : ∀ i, i < 32 → (bt (pjn P j (P.1 11 j)) i = true ↔ i < pn P ∧ why P j i (P.1 11 j) = 0) := fun i hi => by
    unfold pjn
    rw [bt_stf hi (by omega), cjn_t]
  have enw : nw P j S (pn P) = P.1 11 j ||| S := bt_ext fun i hi => by
    rw [bt_nw hi (by omega), bt_or hi]
    exact or_congr_right ⟨fun y => y.2, fun y => ⟨inS i hi y, y⟩⟩
  constructor
  · rintro ⟨⟨c1, c2, -, c4, c5⟩, g⟩
    have w0 : ∀ i, i < 32 → bt S i = true → i < pn P ∧ why P j i (P.1 11 j) = 0 := fun i hi z => (hbt i hi).1 (c2 i hi z)
    refine ⟨and0.2 fun i hi z => (why_0.1 (w0 i hi z).2).1, fun y => by omega, ?_⟩
    unfold dcp
    rw [Bool.and_eq_true, enw]
    refine ⟨?_, by rw [Int32.or_zero] at c5; exact c5⟩
    rw [fnd_none.2 fun k hk => ?_]
    · rfl
    unfold dcf
    by_cases z : bt S k = true
    · rw [z, Bool.true_and]
      refine decide_eq_false (not_not_intro (why_0.2 ?_))
      obtain ⟨q1, q2, q3, q4, q5, q6, q7, q8⟩ := why_0.1 (w0 k (by omega) z).2
      refine ⟨fun y => ?_, q2, q3, and0.2 fun i hi y q => ?_, q5, ?_, q7, q8⟩
      · rw [bt_nw (by omega) (by omega)] at y
        exact y.elim q1 fun y => by omega
      · rw [bt_nw hi (by omega)] at q
        rcases q with q | ⟨r1, r2⟩
        · exact and0.1 q4 i hi y q
        · exact c4 i k r1 (by omega) r2 z ((w_sy hW hk (by omega)).1 y)
      · rw [e1, iN_lt (by have := pcn_le (s := nw P j S k); omega) (by omega)]
        have k1 : bt (P.1 11 j ||| S) k = true := (bt_or (by omega)).2 (Or.inr z)
        have k2 := pcn_rm (k := k) (by omega) k1
        have k3 := pcn_or (a := P.1 11 j) (b := S)
        have k4 : pcn (nw P j S k) ≤ pcn ((P.1 11 j ||| S) &&& (b1 k ^^^ -1)) := pcn_mono fun i hi q => by
          rw [bt_nw (by omega) (by omega)] at q
          rw [bt_and (by omega), bt_or (by omega), bt_not (by omega), bt_b1 k (by omega) i (by omega)]
          rcases q with q | ⟨r1, r2⟩
          · exact ⟨Or.inl q, fun y => by subst y; exact q1 q⟩
          · exact ⟨Or.inr r2, fun y => by omega⟩
        omega
    · rw [bfalse z]; rfl
  · rintro ⟨a1, a2, a3⟩
    unfold dcp at a3
    rw [Bool.and_eq_true, enw] at a3
    have fn : fnd (dcf P j S) (pn P) = none := by
      cases e : fnd (dcf P j S) (pn P) with
      | none => rfl
      | some k => rw [e] at a3; exact absurd a3.1 (by simp)
    have wk : ∀ k, k < pn P → bt S k = true → why P j k (nw P j S k) = 0 := fun k hk z => by
      have := fnd_none.1 fn k hk
      unfold dcf at this
      rw [z, Bool.true_and, decf, Decidable.not_not] at this
      exact this
    have sz : pcn S ≤ mxn P j := by
      by_cases y : m = 0
      · have : S = 0 := by rw [← eS, y]; rfl
        rw [this, pcn_z]; exact Nat.zero_le _
      · have : ¬ mon P j < pcn S + pcn (P.1 11 j) := fun q => a2 ⟨q, y⟩
        omega
    refine ⟨⟨sub_le h14 sS, fun i hi z => (hbt i hi).2 ⟨inS i hi z, why_0.2 ?_⟩, rfl, fun i k hik hk z1 z2 => ?_, by rw [Int32.or_zero]; exact a3.2⟩, sz⟩
    · obtain ⟨q1, q2, q3, q4, q5, q6, q7, q8⟩ := why_0.1 (wk i (inS i hi z) z)
      refine ⟨fun y => ?_, q2, q3, and0.2 fun a ha y q => ?_, q5, ?_, q7, q8⟩
      · exact and0.1 a1 i hi z y
      · exact and0.1 q4 a ha y ((bt_nw ha (by have := inS i hi z; omega)).2 (Or.inl q))
      · rw [e1, iN_lt (by have := pcn_le (s := nw P j S i); omega) (by omega)] at q6
        rw [e1, iN_lt (by have := pcn_le (s := P.1 11 j); omega) (by omega)]
        have : pcn (P.1 11 j) ≤ pcn (nw P j S i) := pcn_mono fun a ha q => (bt_nw (by omega) (by have := inS i hi z; omega)).2 (Or.inl q)
        omega
    · obtain ⟨-, -, -, b4, -⟩ := why_0.1 (wk k (inS k hk z2) z2)
      intro y
      have := (w_sy hW (inS i (by omega) z1) (inS k hk z2)).1 y
      exact and0.1 b4 i (by omega) this ((bt_nw (by omega) (by omega)).2 (Or.inr ⟨hik, z1⟩))
theorem bst_ok {P : PL} (hW : WF P) {j : Nat} (hj : j < tn P) : ∀ m, m ≤ 2 ^ pn P → (bst P j m = none ∧ ∀ x, x < m → ¬ Gd P j (iN x)) ∨ ∃ b, bst P j m = some b ∧ b < m ∧ Gd P j (iN b) ∧ ∀ x, x < m → Gd P j (iN x) → Btr (iN b) (iN x) := by
  have h14 := w_pn hW
  have hp : 2 ^ pn P ≤ 16384 := Nat.pow_le_pow_right (by decide) h14
  intro m
  induction m with
  | zero => intro _; exact Or.inl ⟨rfl, fun x hx => absurd hx (Nat.not_lt_zero x)⟩
  | succ m ih =>
    intro hm
    have ih := ih (by omega)
    have gi := Gd_iff hW hj (m := m) (by omega)
    have no : bst P j (m + 1) = bst P j m → (¬ Gd P j (iN m) ∨ ∃ b, bst P j m = some b ∧ Btr (iN b) (iN m)) → (bst P j (m + 1) = none ∧ ∀ x, x < m + 1 → ¬ Gd P j (iN x)) ∨ ∃ b, bst P j (m + 1) = some b ∧ b < m + 1 ∧ Gd P j (iN b) ∧ ∀ x, x < m + 1 → Gd P j (iN x) → Btr (iN b) (iN x) := fun e g => by
      rw [e]
      rcases ih with ⟨i1, i2⟩ | ⟨b, i1, i2, i3, i4⟩
      · refine Or.inl ⟨i1, fun x hx => ?_⟩
        by_cases y : x = m
        · subst y
          rcases g with g | ⟨b, g, -⟩
          · exact g
          · rw [i1] at g; cases g
        · exact i2 x (by omega)
      · refine Or.inr ⟨b, i1, by omega, i3, fun x hx gx => ?_⟩
        by_cases y : x = m
        · subst y
          rcases g with g | ⟨b', g, g2⟩
          · exact absurd gx g
          · rw [i1] at g; cases g; exact g2
        · exact i4 x (by omega) gx
    rw [bst_s] at no ⊢
    by_cases y1 : ¬ iN m &&& P.1 11 j = 0
    · rw [if_pos y1] at no ⊢
      exact no rfl (Or.inl fun g => y1 (gi.1 g).1)
    rw [if_neg y1] at no ⊢
    by_cases y2 : mon P j < pcn (iN m) + pcn (P.1 11 j) ∧ ¬ m = 0
    · rw [if_pos y2] at no ⊢
      exact no rfl (Or.inl fun g => (gi.1 g).2.1 y2)
    rw [if_neg y2] at no ⊢
    by_cases y3 : skb m (bst P j m) = true
    · rw [if_pos y3] at no ⊢
      refine no rfl (Or.inr ?_)
      cases eb : bst P j m with
      | none => rw [eb] at y3; cases y3
      | some b =>
        have hb := bst_lt eb
        rw [eb] at y3
        unfold skb at y3
        simp only [Bool.or_eq_true, Bool.and_eq_true, decide_eq_true_eq, Bool.not_eq_true'] at y3
        refine ⟨b, rfl, ?_⟩
        rcases y3 with y3 | ⟨y3, y4⟩
        · exact Or.inr (Or.inl y3)
        · exact Or.inr (Or.inr ⟨y3.symm, frb_f y4 (iN_ne (by omega) (by omega) (by omega))⟩)
    rw [if_neg y3] at no ⊢
    by_cases y4 : dcp P j (iN m) = true
    · rw [if_pos y4]
      have gm : Gd P j (iN m) := gi.2 ⟨Decidable.not_not.1 y1, y2, y4⟩
      refine Or.inr ⟨m, rfl, Nat.lt_succ_self m, gm, fun x hx gx => ?_⟩
      by_cases y : x = m
      · subst y; exact Or.inl rfl
      rcases ih with ⟨i1, i2⟩ | ⟨b, i1, i2, i3, i4⟩
      · exact absurd gx (i2 x (by omega))
      · refine Btr_tr ?_ (i4 x (by omega) gx)
        rw [i1] at y3
        unfold skb at y3
        simp only [Bool.or_eq_true, Bool.and_eq_true, decide_eq_true_eq, Bool.not_eq_true', not_or, not_and] at y3
        by_cases w : pcn (iN m) = pcn (iN b)
        · exact Or.inr (Or.inr ⟨w, frb_t (Decidable.byContradiction fun q => y3.2 w (bfalse q))⟩)
        · exact Or.inr (Or.inl (by omega))
    · rw [if_neg y4] at no ⊢
      exact no rfl (Or.inl fun g => y4 (gi.1 g).2.2)
/-- both searches find the same -/
theorem comp_eq {P : PL} (hW : WF P) {j : Nat} (hj : j < tn P) : fdc P j = oN (bst P j (2 ^ pn P)) := by
  have h14 := w_pn hW
  have inN : ∀ S, Gd P j S → ∃ x, x < 2 ^ pn P ∧ S = iN x := fun S g => sub_N (by omega) fun i hi h32 z => by
    have := g.1.2.1 i h32 z
    unfold pjn at this
    rw [bt_stf h32 (by omega)] at this
    omega
  rcases fdc_ok hW hj with ⟨f1, f2⟩ | ⟨S, f1, f2, f3⟩
  · rcases bst_ok hW hj _ (Nat.le_refl _) with ⟨b1, b2⟩ | ⟨b, b1, -, b3, -⟩
    · rw [f1, b1]; rfl
    · exact absurd b3 (f2 _)
  · obtain ⟨x, hx, ex⟩ := inN S f1
    rcases bst_ok hW hj _ (Nat.le_refl _) with ⟨b1, b2⟩ | ⟨b, b1, b2, b3, b4⟩
    · rw [ex] at f1; exact absurd f1 (b2 x hx)
    · rw [f2, b1]
      refine Btr_as (f3 _ b3) ?_
      rw [ex] at f1 ⊢
      exact b4 x hx f1
