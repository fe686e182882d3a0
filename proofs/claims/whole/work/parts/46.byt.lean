/-! BYTES of longs and of ints -/
theorem bt_xor {a b : Int32} {i : Nat} (hi : i < 32) : bt (a ^^^ b) i = (bt a i != bt b i) := by
  rw [Bool.eq_iff_iff, bt_iff hi, Int32.toBitVec_xor, BitVec.getLsbD_xor]
  have e1 : bt a i = a.toBitVec.getLsbD i := by rw [Bool.eq_iff_iff]; exact bt_iff hi
  have e2 : bt b i = b.toBitVec.getLsbD i := by rw [Bool.eq_iff_iff]; exact bt_iff hi
  rw [e1, e2]
theorem bt_255 : ∀ i, i < 32 → (bt 255 i = true ↔ i < 8) := by decide +kernel
theorem sh8 : ∀ k, k < 8 → ((iN (8 * k)).toInt64.toUInt64 &&& Int64.toUInt64 63).toNat % 64 = 8 * k := by decide +kernel
theorem bt_by8 {x : Int64} {k i : Nat} (hk : k < 8) (hi : i < 32) : bt (by8 x k) i = true ↔ i < 8 ∧ x.toBitVec.getLsbD (8 * k + i) = true := by
  unfold by8
  rw [bt_and hi, bt_255 i hi, bt_iff hi]
  have e : (x.toUInt64 >>> ((iN (8 * k)).toInt64.toUInt64 &&& Int64.toUInt64 63)).toInt64.toInt32.toBitVec.getLsbD i = x.toBitVec.getLsbD (8 * k + i) := by
    show (BitVec.signExtend 32 (x.toUInt64 >>> ((iN (8 * k)).toInt64.toUInt64 &&& Int64.toUInt64 63)).toBitVec).getLsbD i = _
    rw [BitVec.getLsbD_signExtend]
    have : (x.toUInt64 >>> ((iN (8 * k)).toInt64.toUInt64 &&& Int64.toUInt64 63)).toBitVec = x.toBitVec >>> (8 * k) := by
      refine BitVec.eq_of_toNat_eq ?_
      show (x.toUInt64 >>> ((iN (8 * k)).toInt64.toUInt64 &&& Int64.toUInt64 63)).toNat = _
      rw [UInt64.toNat_shiftRight, sh8 k hk, BitVec.toNat_ushiftRight]
      rfl
    rw [this, BitVec.getLsbD_ushiftRight]
    simp [hi, show i < 64 by omega]
  rw [e]
  exact And.comm
theorem sl8 : ∀ k, k < 8 → ∀ u, u < 8 → (1 <<< ((iN (8 * k + u)).toInt64 &&& 63) : Int64).toBitVec = 1#64 <<< (8 * k + u) := by decide +kernel
theorem one_bit {m i : Nat} (hi : i < 64) : (1#64 <<< m).getLsbD i = decide (i = m) := by
  rw [BitVec.getLsbD_shiftLeft]
  by_cases z : i = m
  · subst z; simp [hi]
  · by_cases y : i < m
    · simp [y, z]
    · have : ¬ i - m = 0 := by omega
      simp [y, z, hi, BitVec.getLsbD_one, this]
theorem by8_flip {x : Int64} {a b u : Nat} (ha : a < 8) (hb : b < 8) (hu : u < 8) : by8 (x ^^^ (1 <<< ((iN (8 * a + u)).toInt64 &&& 63))) b = if a = b then by8 x b ^^^ b1 u else by8 x b := by
  refine bt_ext fun i hi => ?_
  rw [bt_by8 hb hi]
  have e : (x ^^^ (1 <<< ((iN (8 * a + u)).toInt64 &&& 63))).toBitVec.getLsbD (8 * b + i) = (x.toBitVec.getLsbD (8 * b + i) ^^ (1#64 <<< (8 * a + u)).getLsbD (8 * b + i)) := by
    rw [← sl8 a ha u hu, ← BitVec.getLsbD_xor]
    rfl
  by_cases h8 : i < 8
  · rw [e, one_bit (by omega)]
    by_cases z : a = b
    · subst z
      rw [if_pos rfl, bt_xor hi]
      have e1 : bt (by8 x a) i = x.toBitVec.getLsbD (8 * a + i) := by
        rw [Bool.eq_iff_iff, bt_by8 ha hi]; exact ⟨fun h => h.2, fun h => ⟨h8, h⟩⟩
      have e2 : bt (b1 u) i = decide (8 * a + i = 8 * a + u) := by
        rw [Bool.eq_iff_iff, bt_b1 u (by omega) i hi, dect]
        exact ⟨fun h => by omega, fun h => by omega⟩
      rw [e1, e2]
      simp only [h8, true_and]
    · rw [if_neg z, bt_by8 hb hi, decide_eq_false (by omega), Bool.xor_false]
  · refine ⟨fun h => absurd h.1 h8, fun h => ?_⟩
    exfalso
    by_cases z : a = b
    · subst z
      rw [if_pos rfl, bt_xor hi] at h
      have e1 : bt (by8 x a) i = false := eq_false_of_ne_true fun w => h8 ((bt_by8 ha hi).1 w).1
      have e2 : bt (b1 u) i = false := eq_false_of_ne_true fun w => by
        have := (bt_b1 u (by omega) i hi).1 w
        omega
      rw [e1, e2] at h
      cases h
    · rw [if_neg z] at h
      exact h8 ((bt_by8 hb hi).1 h).1
theorem bt_sh {x : Int32} {m i : Nat} (hm : m < 32) (h : m + i < 32) : bt (x >>> (iN m &&& 31)) i = bt x (m + i) := by
  rw [Bool.eq_iff_iff, bt_iff (by omega), bt_iff h]
  have e : (x >>> (iN m &&& 31)).toBitVec = x.toBitVec.sshiftRight m := by
    show x.toBitVec.sshiftRight ((iN m &&& 31 : Int32).toBitVec.smod 32#32).toNat = _
    rw [sh_N m hm]
  rw [e, BitVec.getLsbD_sshiftRight, if_pos h, decide_eq_false (show ¬ 32 ≤ i by omega)]
  simp
theorem bt_by4 {x : Int32} {k i : Nat} (hk : k < 4) (hi : i < 32) : bt (by4 x k) i = true ↔ i < 8 ∧ bt x (8 * k + i) = true := by
  unfold by4
  rw [bt_and hi, bt_255 i hi]
  by_cases h8 : i < 8
  · rw [bt_sh (by omega) (by omega)]
    exact And.comm
  · exact ⟨fun h => absurd h.2 h8, fun h => absurd h.1 h8⟩
theorem by4_or {x : Int32} {a b u : Nat} (ha : a < 4) (hb : b < 4) (hu : u < 8) : by4 (x ||| b1 (8 * a + u)) b = if a = b then by4 x b ||| b1 u else by4 x b := by
  refine bt_ext fun i hi => ?_
  rw [bt_by4 hb hi]
  by_cases h8 : i < 8
  · rw [bt_or (by omega), bt_b1 _ (by omega) _ (by omega)]
    by_cases z : a = b
    · subst z
      rw [if_pos rfl, bt_or hi, bt_by4 ha hi, bt_b1 u (by omega) i hi]
      exact ⟨fun h => h.2.elim (fun y => Or.inl ⟨h8, y⟩) (fun y => Or.inr (by omega)), fun h => ⟨h8, h.elim (fun y => Or.inl y.2) (fun y => Or.inr (by omega))⟩⟩
    · rw [if_neg z, bt_by4 hb hi]
      exact ⟨fun h => ⟨h8, h.2.elim id (fun y => by omega)⟩, fun h => ⟨h8, Or.inl h.2⟩⟩
  · refine ⟨fun h => absurd h.1 h8, fun h => ?_⟩
    exfalso
    by_cases z : a = b
    · subst z
      rw [if_pos rfl, bt_or hi, bt_by4 ha hi, bt_b1 u (by omega) i hi] at h
      omega
    · rw [if_neg z, bt_by4 hb hi] at h
      omega
theorem by4_an {x : Int32} {a b u : Nat} (ha : a < 4) (hb : b < 4) (hu : u < 8) : by4 (x &&& (b1 (8 * a + u) ^^^ -1)) b = if a = b then by4 x b &&& (b1 u ^^^ -1) else by4 x b := by
  refine bt_ext fun i hi => ?_
  rw [bt_by4 hb hi]
  by_cases h8 : i < 8
  · rw [bt_and (by omega), bt_not (by omega), bt_b1 _ (by omega) _ (by omega)]
    by_cases z : a = b
    · subst z
      rw [if_pos rfl, bt_and hi, bt_not hi, bt_by4 ha hi, bt_b1 u (by omega) i hi]
      exact ⟨fun h => ⟨⟨h8, h.2.1⟩, fun y => h.2.2 (by omega)⟩, fun h => ⟨h8, h.1.2, fun y => h.2 (by omega)⟩⟩
    · rw [if_neg z, bt_by4 hb hi]
      exact ⟨fun h => ⟨h8, h.2.1⟩, fun h => ⟨h8, h.2, fun y => by omega⟩⟩
  · refine ⟨fun h => absurd h.1 h8, fun h => ?_⟩
    exfalso
    by_cases z : a = b
    · subst z
      rw [if_pos rfl, bt_and hi, bt_by4 ha hi] at h
      exact h8 h.1.1
    · rw [if_neg z, bt_by4 hb hi] at h
      exact h8 h.1
/-- a bit of a byte set, or taken away -/
def wbt (b : Int32) (u : Nat) (on : Bool) : Int32 := if on = true then b ||| b1 u else b &&& (b1 u ^^^ -1)
theorem wbt_same {b : Int32} {u : Nat} {on : Bool} (hu : u < 32) (h : bt b u = on) : wbt b u on = b := by
  unfold wbt
  cases on
  · rw [if_neg (by simp)]
    refine bt_ext fun i hi => ?_
    rw [bt_and hi, bt_not hi, bt_b1 u hu i hi]
    exact ⟨fun z => z.1, fun z => ⟨z, fun y => by subst y; rw [h] at z; cases z⟩⟩
  · rw [if_pos rfl]
    refine bt_ext fun i hi => ?_
    rw [bt_or hi, bt_b1 u hu i hi]
    exact ⟨fun z => z.elim id fun y => by subst y; exact h, Or.inl⟩
theorem wbt_flip {b : Int32} {u : Nat} {on : Bool} (hu : u < 32) (h : bt b u ≠ on) : b ^^^ b1 u = wbt b u on := by
  unfold wbt
  cases on
  · have h : bt b u = true := by revert h; cases bt b u <;> simp
    rw [if_neg (by simp)]
    refine bt_ext fun i hi => ?_
    rw [bt_and hi, bt_not hi, bt_xor hi, bt_b1 u hu i hi]
    by_cases y : u = i
    · subst y; rw [h, (bt_b1 u hu u hu).2 rfl]; simp
    · rw [show bt (b1 u) i = false from eq_false_of_ne_true fun w => y ((bt_b1 u hu i hi).1 w)]; simp [y]
  · have h : bt b u = false := by revert h; cases bt b u <;> simp
    rw [if_pos rfl]
    refine bt_ext fun i hi => ?_
    rw [bt_or hi, bt_xor hi, bt_b1 u hu i hi]
    by_cases y : u = i
    · subst y; rw [h, (bt_b1 u hu u hu).2 rfl]; simp
    · rw [show bt (b1 u) i = false from eq_false_of_ne_true fun w => y ((bt_b1 u hu i hi).1 w)]; simp [y]
theorem sub_wbt {b : Int32} {u n : Nat} {on : Bool} (hu : u < n) (hn : n ≤ 32) (h : sub n b) : sub n (wbt b u on) := by
  unfold wbt
  split
  · exact sub_or h (sub_b1 hu hn)
  · exact sub_and h
theorem pcn_flip {b : Int32} {u : Nat} (hu : u < 14) : pcn (b ^^^ b1 u) + (bt b u).toNat = pcn b + (!bt b u).toNat := by
  have e1 := cn_but (c := fun i => bt (b ^^^ b1 u) i) hu
  have e2 := cn_but (c := fun i => bt b i) hu
  have e3 : cn (fun t => decide (t ≠ u) && bt (b ^^^ b1 u) t) 14 = cn (fun t => decide (t ≠ u) && bt b t) 14 := cn_congr fun k hk => by
    by_cases y : k = u
    · subst y; simp
    · rw [bt_xor (by omega), show bt (b1 u) k = false from eq_false_of_ne_true fun w => y ((bt_b1 u (by omega) k (by omega)).1 w).symm]; simp
  rw [e3] at e1
  have e4 : bt (b ^^^ b1 u) u = !bt b u := by
    rw [bt_xor (by omega), (bt_b1 u (by omega) u (by omega)).2 rfl]; simp
  rw [e4] at e1
  unfold pcn
  rw [e1, e2]
  omega
theorem smf_one {f g : Nat → Nat} {x n : Nat} (hx : x < n) (h : ∀ k, k ≠ x → g k = f k) : smf g n + f x = smf f n + g x := by
  induction n with
  | zero => exact absurd hx (Nat.not_lt_zero x)
  | succ n ih =>
    show smf g n + g n + f x = smf f n + f n + g x
    by_cases y : x = n
    · subst y
      have : smf g x = smf f x := by
        have : ∀ m, m ≤ x → smf g m = smf f m := by
          intro m
          induction m with
          | zero => intro _; rfl
          | succ m ihm => intro hm; show smf g m + g m = smf f m + f m; rw [ihm (by omega), h m (by omega)]
        exact this x (Nat.le_refl x)
      omega
    · have := ih (by omega)
      rw [h n (fun q => y q.symm)]
      omega
