/-! NUMBERS AND SETS: small numbers as ints, bits of a set, counts, folds -/
abbrev iN (k : Nat) : Int32 := Int32.ofNat k
theorem iN_add (a b : Nat) : iN a + iN b = iN (a + b) := (Int32.ofNat_add a b).symm
theorem iN_s (a : Nat) : iN a + 1 = iN (a + 1) := (Int32.ofNat_add a 1).symm
theorem iN_mul (a b : Nat) : iN a * iN b = iN (a * b) := (Int32.ofNat_mul a b).symm
theorem iN_sub {a b : Nat} (h : b ≤ a) : iN a - iN b = iN (a - b) := (Int32.ofNat_sub a b h).symm
theorem iN_lt {a b : Nat} (ha : a < 2147483648) (hb : b < 2147483648) : (iN a < iN b) = (a < b) := propext (Int32.ofNat_lt_iff_lt ha hb)
theorem iN_le {a b : Nat} (ha : a < 2147483648) (hb : b < 2147483648) : (iN a ≤ iN b) = (a ≤ b) := propext (Int32.ofNat_le_iff_le ha hb)
theorem iN_i {a : Nat} (ha : a < 2147483648) : (iN a).toInt = a := Int32.toInt_ofNat_of_lt ha
theorem iN_inj {a b : Nat} (ha : a < 2147483648) (hb : b < 2147483648) : (iN a = iN b) = (a = b) := by
  refine propext ⟨fun h => ?_, fun h => h ▸ rfl⟩
  have := congrArg Int32.toInt h
  rw [iN_i ha, iN_i hb] at this
  omega
theorem nle {n k : Nat} (h : k < n) (hn : n < 2147483648) : ¬ (iN n ≤ iN k) := by
  rw [iN_le hn (Nat.lt_trans h hn)]
  exact Nat.not_le.mpr h
theorem nlt {n k : Nat} (h : k < n) (hn : n < 2147483648) : ¬ (iN n < iN k) := by
  rw [iN_lt hn (Nat.lt_trans h hn)]
  omega
theorem ilt {n k : Nat} (h : k < n) (hn : n < 2147483648) : iN k < iN n := by
  rw [iN_lt (Nat.lt_trans h hn) hn]
  exact h
theorem ile {n k : Nat} (h : k ≤ n) (hn : n < 2147483648) : iN k ≤ iN n := by
  rw [iN_le (Nat.lt_of_le_of_lt h hn) hn]
  exact h
theorem n_i {k : Nat} (h : k < 2147483648) : (iN k).toNatClampNeg = k := Int32.toNatClampNeg_ofNat_of_lt h
theorem ofI {x : Int32} {n : Nat} (h0 : 0 ≤ x) (h1 : x < iN n) (hn : n < 2147483648) : ∃ k, k < n ∧ x = iN k := by
  refine ⟨x.toNatClampNeg, ?_, (Int32.ofNat_toNatClampNeg x h0).symm⟩
  have e := (Int32.ofNat_toNatClampNeg x h0).symm
  rw [e] at h1
  rwa [iN_lt (Int32.toNatClampNeg_lt x) hn] at h1
theorem ofI' {x : Int32} {n : Nat} (h0 : 0 ≤ x) (h1 : x ≤ iN n) (hn : n < 2147483647) : ∃ k, k ≤ n ∧ x = iN k := by
  refine ⟨x.toNatClampNeg, ?_, (Int32.ofNat_toNatClampNeg x h0).symm⟩
  have e := (Int32.ofNat_toNatClampNeg x h0).symm
  rw [e] at h1
  rwa [iN_le (Int32.toNatClampNeg_lt x) (by omega)] at h1
theorem i_0 {k : Nat} (h : k < 2147483648) : (0 : Int32) ≤ iN k := ile (Nat.zero_le k) h
/-! bits -/
def bt (s : Int32) (i : Nat) : Bool := decide ((s >>> (iN i &&& 31)) &&& 1 = 1)
theorem bt_d {s : Int32} {i : Nat} : (bt s i = true) = ((s >>> (iN i &&& 31)) &&& 1 = 1) := propext decide_eq_true_iff
theorem sh_N : ∀ i, i < 32 → ((iN i &&& 31 : Int32).toBitVec.smod 32#32).toNat = i := by decide +kernel
theorem sh_31 : ∀ i, i < 32 → (iN i &&& 31 : Int32) = iN i := by decide +kernel
theorem and1 (x : Int32) : x &&& 1 = if x.toBitVec.getLsbD 0 = true then 1 else 0 := by
  refine Int32.toBitVec_inj.1 ?_
  have : (x &&& 1).toBitVec = x.toBitVec &&& 1#32 := rfl
  rw [this, BitVec.and_one_eq_setWidth_ofBool_getLsbD]
  cases x.toBitVec.getLsbD 0 <;> rfl
theorem and1_01 (x : Int32) : x &&& 1 = 0 ∨ x &&& 1 = 1 := by
  rw [and1]
  split
  · exact Or.inr rfl
  · exact Or.inl rfl
theorem and1_0 (x : Int32) : (x &&& 1 = 0) = ¬ (x &&& 1 = 1) := by
  rcases and1_01 x with h | h <;> rw [h] <;> decide
theorem bt_iff {s : Int32} {i : Nat} (hi : i < 32) : bt s i ↔ s.toBitVec.getLsbD i = true := by
  have e : (s >>> (iN i &&& 31)).toBitVec = s.toBitVec.sshiftRight i := by
    show s.toBitVec.sshiftRight ((iN i &&& 31 : Int32).toBitVec.smod 32#32).toNat = _
    rw [sh_N i hi]
  rw [bt_d]
  have e2 : (s.toBitVec.sshiftRight i).getLsbD 0 = s.toBitVec.getLsbD i := by
    rw [BitVec.getLsbD_sshiftRight]
    simp [hi]
  rw [and1, e, e2]
  cases s.toBitVec.getLsbD i <;> decide
theorem bt_or {a b : Int32} {i : Nat} (hi : i < 32) : bt (a ||| b) i ↔ bt a i ∨ bt b i := by
  rw [bt_iff hi, bt_iff hi, bt_iff hi, Int32.toBitVec_or, BitVec.getLsbD_or, Bool.or_eq_true]
theorem bt_and {a b : Int32} {i : Nat} (hi : i < 32) : bt (a &&& b) i ↔ bt a i ∧ bt b i := by
  rw [bt_iff hi, bt_iff hi, bt_iff hi, Int32.toBitVec_and, BitVec.getLsbD_and, Bool.and_eq_true]
theorem m1_bit : ∀ i, i < 32 → (-1 : Int32).toBitVec.getLsbD i = true := by decide +kernel
theorem bt_not {a : Int32} {i : Nat} (hi : i < 32) : bt (a ^^^ -1) i ↔ ¬ bt a i := by
  rw [bt_iff hi, bt_iff hi, Int32.toBitVec_xor, BitVec.getLsbD_xor, m1_bit i hi]
  cases a.toBitVec.getLsbD i <;> decide
abbrev b1 (k : Nat) : Int32 := 1 <<< (iN k &&& 31)
theorem bt_b1 : ∀ k, k < 32 → ∀ i, i < 32 → (bt (b1 k) i ↔ k = i) := by decide +kernel
theorem bt_0 : ∀ i, i < 32 → ¬ bt 0 i := by decide +kernel
theorem bt_ext {a b : Int32} (h : ∀ i, i < 32 → (bt a i ↔ bt b i)) : a = b := by
  refine Int32.toBitVec_inj.1 (BitVec.eq_of_getLsbD_eq fun i hi => ?_)
  have := h i hi
  rw [bt_iff hi, bt_iff hi] at this
  cases e : a.toBitVec.getLsbD i <;> cases e2 : b.toBitVec.getLsbD i <;> simp_all
theorem bt_ne0 {a : Int32} : a ≠ 0 ↔ ∃ i, i < 32 ∧ bt a i := by
  refine ⟨fun h => Classical.byContradiction fun z => h (bt_ext fun i hi => ⟨fun y => absurd ⟨i, hi, y⟩ z, fun y => absurd y (bt_0 i hi)⟩), fun ⟨i, hi, y⟩ z => ?_⟩
  rw [z] at y
  exact bt_0 i hi y
/-- a set of the numbers below n -/
def sub (n : Nat) (s : Int32) : Prop := ∀ i, n ≤ i → i < 32 → ¬ bt s i
theorem sub_N {n : Nat} {s : Int32} (hn : n < 31) (h : sub n s) : ∃ m, m < 2 ^ n ∧ s = iN m := by
  refine ⟨s.toBitVec.toNat, Nat.lt_pow_two_of_testBit _ fun i hi => ?_, Int32.toBitVec_inj.1 ?_⟩
  · by_cases h32 : i < 32
    · have := h i hi h32
      rw [bt_iff h32] at this
      exact eq_false_of_ne_true this
    · exact Nat.testBit_lt_two_pow (Nat.lt_of_lt_of_le s.toBitVec.isLt (Nat.pow_le_pow_right (by decide) (by omega)))
  · show s.toBitVec = BitVec.ofNat 32 s.toBitVec.toNat
    rw [BitVec.ofNat_toNat, BitVec.setWidth_eq]
theorem bt_N {m i : Nat} (hm : m < 2147483648) (hi : i < 32) : bt (iN m) i ↔ m.testBit i = true := by
  rw [bt_iff hi]
  show (BitVec.ofNat 32 m).getLsbD i = true ↔ _
  rw [BitVec.getLsbD_ofNat, decide_eq_true hi, Bool.true_and]
theorem N_sub {n m : Nat} (hn : n < 31) (h : m < 2 ^ n) : sub n (iN m) := by
  intro i hi h32
  have h31 : m < 2147483648 := Nat.lt_trans h (Nat.pow_lt_pow_right (by decide) hn)
  rw [bt_N h31 h32, Nat.testBit_lt_two_pow (Nat.lt_of_lt_of_le h (Nat.pow_le_pow_right (by decide) hi))]
  decide
theorem sub_le {n m : Nat} {s : Int32} (h : n ≤ m) (hs : sub n s) : sub m s := fun i hi h32 => hs i (Nat.le_trans h hi) h32
theorem sub_0 {n : Nat} : sub n 0 := fun i _ h32 => bt_0 i h32
theorem sub_or {n : Nat} {a b : Int32} (ha : sub n a) (hb : sub n b) : sub n (a ||| b) := fun i hi h32 => by
  rw [bt_or h32]
  rintro (h | h)
  · exact ha i hi h32 h
  · exact hb i hi h32 h
theorem sub_and {n : Nat} {a b : Int32} (ha : sub n a) : sub n (a &&& b) := fun i hi h32 h => ha i hi h32 ((bt_and h32).1 h).1
theorem sub_b1 {n k : Nat} (h : k < n) (hn : n ≤ 32) : sub n (b1 k) := fun i hi h32 z => by
  have := (bt_b1 k (by omega) i h32).1 z
  omega
/-! counts and folds -/
def cn (c : Nat → Bool) : Nat → Nat
  | 0 => 0
  | n + 1 => cn c n + (c n).toNat
def orf (a : Int32) (f : Nat → Int32) : Nat → Int32
  | 0 => a
  | n + 1 => orf a f n ||| f n
def smf (f : Nat → Nat) : Nat → Nat
  | 0 => 0
  | n + 1 => smf f n + f n
theorem cn_le {c : Nat → Bool} {n : Nat} : cn c n ≤ n := by
  induction n with
  | zero => exact Nat.le_refl _
  | succ n ih =>
    show cn c n + (c n).toNat ≤ n + 1
    have : (c n).toNat ≤ 1 := by cases c n <;> decide
    omega
theorem cn_congr {c e : Nat → Bool} {n : Nat} (h : ∀ k, k < n → c k = e k) : cn c n = cn e n := by
  induction n with
  | zero => rfl
  | succ n ih =>
    show cn c n + (c n).toNat = cn e n + (e n).toNat
    rw [ih fun k hk => h k (by omega), h n (by omega)]
theorem cn_mono {c e : Nat → Bool} {n : Nat} (h : ∀ k, k < n → c k = true → e k = true) : cn c n ≤ cn e n := by
  induction n with
  | zero => exact Nat.le_refl _
  | succ n ih =>
    show cn c n + (c n).toNat ≤ cn e n + (e n).toNat
    have := ih fun k hk => h k (by omega)
    have h2 := h n (by omega)
    cases hc : c n
    · simp only [Bool.toNat_false]; omega
    · rw [h2 hc]; simp only [Bool.toNat_true]; omega
theorem cn_ext {c : Nat → Bool} {n m : Nat} (h : n ≤ m) (hz : ∀ k, n ≤ k → k < m → c k = false) : cn c m = cn c n := by
  induction m with
  | zero => rw [Nat.le_zero.mp h]
  | succ m ih =>
    by_cases e : n = m + 1
    · rw [e]
    · show cn c m + (c m).toNat = cn c n
      rw [ih (by omega) fun k h1 h2 => hz k h1 (by omega), hz m (by omega) (by omega)]
      rfl
theorem orf_congr {a : Int32} {f g : Nat → Int32} {n : Nat} (h : ∀ k, k < n → f k = g k) : orf a f n = orf a g n := by
  induction n with
  | zero => rfl
  | succ n ih =>
    show orf a f n ||| f n = orf a g n ||| g n
    rw [ih fun k hk => h k (by omega), h n (by omega)]
theorem orf_ext {a : Int32} {f : Nat → Int32} {n m : Nat} (h : n ≤ m) (hz : ∀ k, n ≤ k → k < m → f k = 0) : orf a f m = orf a f n := by
  induction m with
  | zero => rw [Nat.le_zero.mp h]
  | succ m ih =>
    by_cases e : n = m + 1
    · rw [e]
    · show orf a f m ||| f m = orf a f n
      rw [ih (by omega) fun k h1 h2 => hz k h1 (by omega), hz m (by omega) (by omega), Int32.or_zero]
theorem bt_orf {a : Int32} {f : Nat → Int32} {n i : Nat} (hi : i < 32) : bt (orf a f n) i ↔ bt a i ∨ ∃ k, k < n ∧ bt (f k) i := by
  induction n with
  | zero => exact ⟨Or.inl, fun h => h.elim id fun ⟨k, hk, _⟩ => absurd hk (Nat.not_lt_zero k)⟩
  | succ n ih =>
    show bt (orf a f n ||| f n) i ↔ _
    rw [bt_or hi, ih]
    refine ⟨?_, ?_⟩
    · rintro ((h | ⟨k, hk, h⟩) | h)
      · exact Or.inl h
      · exact Or.inr ⟨k, by omega, h⟩
      · exact Or.inr ⟨n, by omega, h⟩
    · rintro (h | ⟨k, hk, h⟩)
      · exact Or.inl (Or.inl h)
      · by_cases e : k = n
        · subst e; exact Or.inr h
        · exact Or.inl (Or.inr ⟨k, by omega, h⟩)
theorem and_orf0 {a m : Int32} {f : Nat → Int32} {n : Nat} : orf a f n &&& m = 0 ↔ a &&& m = 0 ∧ ∀ k, k < n → f k &&& m = 0 := by
  induction n with
  | zero => exact ⟨fun h => ⟨h, fun k hk => absurd hk (Nat.not_lt_zero k)⟩, fun h => h.1⟩
  | succ n ih =>
    show (orf a f n ||| f n) &&& m = 0 ↔ _
    have e : (orf a f n ||| f n) &&& m = (orf a f n &&& m) ||| (f n &&& m) := by
      refine bt_ext fun i hi => ?_
      rw [bt_and hi, bt_or hi, bt_or hi, bt_and hi, bt_and hi]
      exact or_and_right
    rw [e, Int32.or_eq_zero_iff, ih]
    refine ⟨fun ⟨⟨h1, h2⟩, h3⟩ => ⟨h1, fun k hk => ?_⟩, fun ⟨h1, h2⟩ => ⟨⟨h1, fun k hk => h2 k (by omega)⟩, h2 n (by omega)⟩⟩
    by_cases z : k = n
    · subst z; exact h3
    · exact h2 k (by omega)
theorem sub_orf {n m : Nat} {a : Int32} {f : Nat → Int32} (ha : sub n a) (hf : ∀ k, k < m → sub n (f k)) : sub n (orf a f m) := fun i hi h32 z => by
  rcases (bt_orf h32).1 z with h | ⟨k, hk, h⟩
  · exact ha i hi h32 h
  · exact hf k hk i hi h32 h
/-- the set of the numbers below n of which c holds -/
abbrev stf (c : Nat → Bool) (n : Nat) : Int32 := orf 0 (fun k => if c k = true then b1 k else 0) n
theorem bt_stf {c : Nat → Bool} {n i : Nat} (hi : i < 32) (hn : n ≤ 32) : bt (stf c n) i ↔ i < n ∧ c i = true := by
  rw [bt_orf hi]
  refine ⟨?_, fun ⟨h1, h2⟩ => Or.inr ⟨i, h1, ?_⟩⟩
  · rintro (h | ⟨k, hk, h⟩)
    · exact absurd h (bt_0 i hi)
    · by_cases z : c k = true
      · rw [if_pos z] at h
        have := (bt_b1 k (by omega) i hi).1 h
        subst this
        exact ⟨hk, z⟩
      · rw [if_neg z] at h
        exact absurd h (bt_0 i hi)
  · show bt (if c i = true then b1 i else 0) i
    rw [if_pos h2]
    exact (bt_b1 i hi i hi).2 rfl
theorem sub_stf {c : Nat → Bool} {n : Nat} (hn : n ≤ 32) : sub n (stf c n) := fun i hi h32 z => by
  have := (bt_stf h32 hn).1 z
  omega
/-- the number of elements of a set of numbers below 14 -/
def pcn (s : Int32) : Nat := cn (fun i => bt s i) 14
theorem pcn_stf {c : Nat → Bool} {n : Nat} (hn : n ≤ 14) : pcn (stf c n) = cn c n := by
  unfold pcn
  rw [cn_ext hn fun k h1 h2 => eq_false_of_ne_true fun z => by
    have := (bt_stf (by omega) (by omega)).1 z
    omega]
  refine cn_congr fun k hk => ?_
  cases hc : c k
  · refine eq_false_of_ne_true fun z => ?_
    have := (bt_stf (by omega) (by omega)).1 z
    rw [hc] at this
    exact Bool.false_ne_true this.2
  · exact (bt_stf (by omega) (by omega)).2 ⟨hk, hc⟩
/-- the least place below n at which c holds -/
def fnd (c : Nat → Bool) : Nat → Option Nat
  | 0 => none
  | n + 1 => match fnd c n with
    | some k => some k
    | none => if c n = true then some n else none
theorem fnd_some {c : Nat → Bool} {n k : Nat} : fnd c n = some k ↔ k < n ∧ c k = true ∧ ∀ j, j < k → c j = false := by
  induction n with
  | zero => exact ⟨fun h => (by cases h), fun h => absurd h.1 (Nat.not_lt_zero k)⟩
  | succ n ih =>
    unfold fnd
    cases e : fnd c n with
    | some k' =>
      rw [e] at ih
      simp only
      constructor
      · intro h
        obtain ⟨h1, h2⟩ := ih.1 h
        exact ⟨by omega, h2⟩
      · rintro ⟨h1, h2, h3⟩
        by_cases z : k = n
        · subst z
          exfalso
          have hk' : k' < k ∧ c k' = true := by
            have : fnd c k = some k' := e
            clear ih
            revert this
            generalize k = m
            intro this
            induction m with
            | zero => cases this
            | succ m ihm =>
              unfold fnd at this
              cases e2 : fnd c m with
              | some k2 => rw [e2] at this; cases this; exact ⟨Nat.lt_succ_of_lt (ihm e2).1, (ihm e2).2⟩
              | none =>
                rw [e2] at this
                simp only at this
                split at this
                · cases this; exact ⟨Nat.lt_succ_self _, by assumption⟩
                · cases this
          rw [h3 k' hk'.1] at hk'
          exact Bool.false_ne_true hk'.2
        · exact ih.2 ⟨by omega, h2, h3⟩
    | none =>
      simp only
      have hn : ∀ j, j < n → c j = false := by
        clear ih
        induction n with
        | zero => intro j hj; exact absurd hj (Nat.not_lt_zero j)
        | succ n ihn =>
          intro j hj
          unfold fnd at e
          cases e2 : fnd c n with
          | some k2 => rw [e2] at e; cases e
          | none =>
            rw [e2] at e
            simp only at e
            split at e
            · cases e
            · by_cases z : j = n
              · subst z; exact eq_false_of_ne_true (by assumption)
              · exact ihn e2 j (by omega)
      constructor
      · intro h
        split at h
        · cases h; exact ⟨Nat.lt_succ_self _, by assumption, hn⟩
        · cases h
      · rintro ⟨h1, h2, h3⟩
        by_cases z : k = n
        · subst z; rw [if_pos h2]
        · rw [hn k (by omega)] at h2; exact absurd h2 Bool.false_ne_true
theorem fnd_none {c : Nat → Bool} {n : Nat} : fnd c n = none ↔ ∀ j, j < n → c j = false := by
  constructor
  · intro h j hj
    refine eq_false_of_ne_true fun z => ?_
    have : ∃ k, k < n ∧ c k = true ∧ ∀ j, j < k → c j = false := by
      clear h
      induction j using Nat.strongRecOn with
      | ind j ih =>
        by_cases y : ∃ i, i < j ∧ c i = true
        · obtain ⟨i, hi, hc⟩ := y
          exact ih i hi (by omega) hc
        · exact ⟨j, hj, z, fun i hi => eq_false_of_ne_true fun hc => y ⟨i, hi, hc⟩⟩
    obtain ⟨k, hk⟩ := this
    rw [fnd_some.2 hk] at h
    cases h
  · intro h
    cases e : fnd c n with
    | none => rfl
    | some k =>
      have := fnd_some.1 e
      rw [h k this.1] at this
      exact absurd this.2.1 Bool.false_ne_true
theorem fnd_congr {c e : Nat → Bool} {n : Nat} (h : ∀ k, k < n → c k = e k) : fnd c n = fnd e n := by
  induction n with
  | zero => rfl
  | succ n ih =>
    unfold fnd
    rw [ih fun k hk => h k (by omega), h n (by omega)]
