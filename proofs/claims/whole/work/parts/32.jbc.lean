/-! quotients; bitCount -/
theorem iN_div {a b : Nat} (ha : a < 2147483648) (hb : b < 2147483648) : iN a / iN b = iN (a / b) := (Int32.ofNat_div ha hb).symm
theorem iN_dlit8 {a : Nat} (ha : a < 2147483648) : iN a / 8 = iN (a / 8) := iN_div ha (by decide)
theorem iN_mlit8 {a : Nat} : iN a - iN (a / 8) * 8 = iN (a % 8) := by
  show iN a - iN (a / 8) * iN 8 = _
  rw [iN_mul, iN_sub (by omega)]
  congr 1; omega
theorem ne_inB {k n : Nat} (h : k < n) (hn : n < 2147483648) : inB (iN k) n := inB_of h hn
theorem nlt0 {k : Nat} (h : k < 2147483648) : ¬ (iN k < 0) := nlt (n := 0 + k + 1 - 1 - k) (k := k) |> fun _ => by
  have : (0 : Int32) ≤ iN k := i_0 h
  exact fun z => Int32.lt_irrefl (Int32.lt_of_lt_of_le z this)
/-! bitCount -/
def ur (x y : Int32) : Int32 := (x.toUInt32 >>> (y.toUInt32 &&& Int32.toUInt32 31)).toInt32
def jbc (i : Int32) : Int32 :=
  let a := i - (ur i 1 &&& 1431655765)
  let b := (a &&& 858993459) + (ur a 2 &&& 858993459)
  let c := (b + ur b 4) &&& 252645135
  let e := c + ur c 8
  let f := e + ur e 16
  f &&& 63
def nbc (i : Nat) : Nat :=
  let a := i - ((i >>> 1) &&& 1431655765)
  let b := (a &&& 858993459) + ((a >>> 2) &&& 858993459)
  let c := (b + b >>> 4) &&& 252645135
  let e := c + c >>> 8
  let f := e + e >>> 16
  f &&& 63
theorem iN_and {a b : Nat} : iN a &&& iN b = iN (a &&& b) := Int32.toBitVec_inj.1 (BitVec.ofNat_and (w := 32)).symm
theorem iN_or {a b : Nat} : iN a ||| iN b = iN (a ||| b) := Int32.toBitVec_inj.1 (BitVec.ofNat_or (w := 32)).symm
theorem ur_N {m s : Nat} (hm : m < 2147483648) (hs : ((iN s).toUInt32 &&& Int32.toUInt32 31).toNat % 32 = s) : ur (iN m) (iN s) = iN (m >>> s) := by
  refine Int32.toBitVec_inj.1 (BitVec.eq_of_toNat_eq ?_)
  show ((iN m).toUInt32 >>> ((iN s).toUInt32 &&& Int32.toUInt32 31)).toNat = _
  rw [UInt32.toNat_shiftRight, hs]
  show (BitVec.ofNat 32 m).toNat >>> s = (BitVec.ofNat 32 (m >>> s)).toNat
  rw [BitVec.toNat_ofNat, BitVec.toNat_ofNat, Nat.mod_eq_of_lt (by omega), Nat.mod_eq_of_lt]
  have := Nat.shiftRight_le m s
  omega
theorem jbc_N {m : Nat} (hm : m < 16384) : jbc (iN m) = iN (nbc m) := by
  have e1 : ∀ k, k < 2147483648 → ur (iN k) 1 = iN (k >>> 1) := fun k hk => ur_N (s := 1) hk (by decide)
  have e2 : ∀ k, k < 2147483648 → ur (iN k) 2 = iN (k >>> 2) := fun k hk => ur_N (s := 2) hk (by decide)
  have e4 : ∀ k, k < 2147483648 → ur (iN k) 4 = iN (k >>> 4) := fun k hk => ur_N (s := 4) hk (by decide)
  have e8 : ∀ k, k < 2147483648 → ur (iN k) 8 = iN (k >>> 8) := fun k hk => ur_N (s := 8) hk (by decide)
  have e16 : ∀ k, k < 2147483648 → ur (iN k) 16 = iN (k >>> 16) := fun k hk => ur_N (s := 16) hk (by decide)
  have l1 : (1431655765 : Int32) = iN 1431655765 := rfl
  have l2 : (858993459 : Int32) = iN 858993459 := rfl
  have l3 : (252645135 : Int32) = iN 252645135 := rfl
  have l4 : (63 : Int32) = iN 63 := rfl
  have b1 : (m >>> 1) &&& 1431655765 ≤ m := Nat.le_trans Nat.and_le_left (Nat.shiftRight_le m 1)
  unfold jbc nbc
  simp only
  rw [e1 m (by omega), l1, iN_and, iN_sub b1]
  generalize hA : m - (m >>> 1 &&& 1431655765) = a
  have ha : a < 16384 := by omega
  rw [e2 a (by omega), l2, iN_and, iN_and, iN_add]
  have b2 : a &&& 858993459 ≤ a := Nat.and_le_left
  have b3 : a >>> 2 &&& 858993459 ≤ a := Nat.le_trans Nat.and_le_left (Nat.shiftRight_le a 2)
  generalize hB : (a &&& 858993459) + (a >>> 2 &&& 858993459) = b
  have hb : b < 32768 := by omega
  rw [e4 b (by omega), iN_add, l3, iN_and]
  have b4 : (b + b >>> 4) &&& 252645135 ≤ b + b >>> 4 := Nat.and_le_left
  have b5 := Nat.shiftRight_le b 4
  generalize hC : (b + b >>> 4) &&& 252645135 = c
  have hc : c < 65536 := by omega
  have b6 := Nat.shiftRight_le c 8
  rw [e8 c (by omega), iN_add]
  generalize hE : c + c >>> 8 = e
  have he : e < 131072 := by omega
  rw [e16 e (by omega), iN_add, l4, iN_and]
def npc (m : Nat) : Nat := cn (fun i => m.testBit i) 14
theorem nbc_ok : ∀ a, a < 128 → ∀ b, b < 128 → nbc (128 * a + b) = npc (128 * a + b) := by decide +kernel
theorem jbc_eq {s : Int32} (hs : sub 14 s) : jbc s = iN (pcn s) := by
  obtain ⟨m, hm, rfl⟩ := sub_N (by decide) hs
  have hm' : m < 16384 := hm
  rw [jbc_N hm']
  have e := nbc_ok (m / 128) (by omega) (m % 128) (by omega)
  rw [Nat.div_add_mod] at e
  rw [e]
  refine congrArg iN (cn_congr fun k hk => ?_)
  have z := bt_N (m := m) (i := k) (by omega) (by omega)
  cases e2 : m.testBit k
  · rw [e2] at z
    exact (eq_false_of_ne_true fun y => Bool.false_ne_true (z.1 y)).symm
  · rw [e2] at z
    exact (z.2 rfl).symm
