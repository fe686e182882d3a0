/-! THE LAW'S LOOP: all cases, the loop -/



section LawL
variable {L : Nat} {xs : Nat → Int32} {h : Hp} {d c : Nat}
theorem LG_r {E : Option (MO × Hp)} {b6 b7 b8 : Option MV} (hI : Inv L xs h) (e : E = Ev (d + 21) 278 2575 [some (vR (40, 0, 0)), some (vR (1, 0, 0)), some (vR (20, 0, 0)), some (vR (30, 0, 0)), some (vR (31, 0, 0)), some (vI (iN (5 * c))), b6, b7, b8] [] h) : LG L xs d c h E := ⟨b6, b7, b8, h, e, hI, rfl, Nat.le_succ _, Nat.le_add_right _ _⟩
theorem law_sw (hI : Inv L xs h) (hc : 5 * c + 5 ≤ L) (hl : L ≤ 2560) {a6 a7 a8 : Option MV} {v : Int32} : LG L xs d c h (Ev (d + 21) 278 44 [some (vR (40, 0, 0)), some (vR (1, 0, 0)), some (vR (20, 0, 0)), some (vR (30, 0, 0)), some (vR (31, 0, 0)), some (vI (iN (5 * c))), a6, a7, a8] [vI v] h) := by
  rw [v278_44]
  by_cases z0 : v = 0
  · rw [if_pos z0]; exact L0 hI hc hl
  rw [if_neg z0]
  by_cases z1 : v = 1
  · rw [if_pos z1]; exact L1 hI hc hl
  rw [if_neg z1]
  by_cases z2 : v = 2
  · rw [if_pos z2]; exact L2 hI hc hl
  rw [if_neg z2]
  by_cases z3 : v = 3
  · rw [if_pos z3]; exact L3 hI hc hl
  rw [if_neg z3]
  by_cases z4 : v = 4
  · rw [if_pos z4]; exact L4 hI hc hl
  rw [if_neg z4]
  by_cases z5 : v = 5
  · rw [if_pos z5]; exact L5 hI hc hl
  rw [if_neg z5]
  by_cases z6 : v = 6
  · rw [if_pos z6]; exact L6 hI hc hl
  rw [if_neg z6]
  by_cases z7 : v = 7
  · rw [if_pos z7]; exact L7 hI hc hl
  rw [if_neg z7]
  by_cases z8 : v = 8
  · rw [if_pos z8]; exact L8 hI hc hl
  rw [if_neg z8]
  by_cases z9 : v = 9
  · rw [if_pos z9]; exact L9 hI hc hl
  rw [if_neg z9]
  by_cases z10 : v = 10
  · rw [if_pos z10]; exact L10 hI hc hl
  rw [if_neg z10]
  by_cases z11 : v = 11
  · rw [if_pos z11]; exact L11 hI hc hl
  rw [if_neg z11]
  by_cases z12 : v = 12
  · rw [if_pos z12]; exact L12 hI hc hl
  rw [if_neg z12]
  by_cases z13 : v = 13
  · rw [if_pos z13]; exact L13 hI hc hl
  rw [if_neg z13]
  by_cases z14 : v = 14
  · rw [if_pos z14]; exact L14 hI hc hl
  rw [if_neg z14]
  by_cases z15 : v = 15
  · rw [if_pos z15]; exact L15 hI hc hl
  rw [if_neg z15]
  by_cases z16 : v = 16
  · rw [if_pos z16]; exact L16 hI hc hl
  rw [if_neg z16]
  by_cases z17 : v = 17
  · rw [if_pos z17]; exact L17 hI hc hl
  rw [if_neg z17]
  by_cases z18 : v = 18
  · rw [if_pos z18]; exact L18 hI hc hl
  rw [if_neg z18]
  by_cases z19 : v = 19
  · rw [if_pos z19]; exact L19 hI hc hl
  rw [if_neg z19]
  by_cases z20 : v = 20
  · rw [if_pos z20]; exact L20 hI hc hl
  rw [if_neg z20]
  by_cases z21 : v = 21
  · rw [if_pos z21]; exact L21 hI hc hl
  rw [if_neg z21]
  by_cases z22 : v = 22
  · rw [if_pos z22]; exact L22 hI hc hl
  rw [if_neg z22]
  by_cases z23 : v = 23
  · rw [if_pos z23]; exact L23 hI hc hl
  rw [if_neg z23]
  by_cases z24 : v = 24
  · rw [if_pos z24]; exact L24 hI hc hl
  rw [if_neg z24]
  by_cases z25 : v = 25
  · rw [if_pos z25]; exact L25 hI hc hl
  rw [if_neg z25]
  by_cases z26 : v = 26
  · rw [if_pos z26]; exact L26 hI hc hl
  rw [if_neg z26]
  by_cases z27 : v = 27
  · rw [if_pos z27]; exact L27 hI hc hl
  rw [if_neg z27]
  by_cases z28 : v = 28
  · rw [if_pos z28]; exact L28 hI hc hl
  rw [if_neg z28]
  by_cases z29 : v = 29
  · rw [if_pos z29]; exact L29 hI hc hl
  rw [if_neg z29]
  by_cases z30 : v = 30
  · rw [if_pos z30]; exact L30 hI hc hl
  rw [if_neg z30]
  by_cases z31 : v = 31
  · rw [if_pos z31]; exact L31 hI hc hl
  rw [if_neg z31]
  by_cases z32 : v = 32
  · rw [if_pos z32]; exact L32 hI hc hl
  rw [if_neg z32]
  by_cases z33 : v = 33
  · rw [if_pos z33]; exact L33 hI hc hl
  rw [if_neg z33]
  by_cases z34 : v = 34
  · rw [if_pos z34]; exact L34 hI hc hl
  rw [if_neg z34]
  by_cases z35 : v = 35
  · rw [if_pos z35]; exact L35 hI hc hl
  rw [if_neg z35]
  by_cases z36 : v = 36
  · rw [if_pos z36]; exact L36 hI hc hl
  rw [if_neg z36]
  by_cases z37 : v = 37
  · rw [if_pos z37]; exact L37 hI hc hl
  rw [if_neg z37]
  exact LG_r hI rfl
theorem law_st (hI : Inv L xs h) (hc : 5 * c + 5 ≤ L) (hl : L ≤ 2560) {a6 a7 a8 : Option MV} : LG L xs d c h (Ev (d + 21) 278 28 [some (vR (40, 0, 0)), some (vR (1, 0, 0)), some (vR (20, 0, 0)), some (vR (30, 0, 0)), some (vR (31, 0, 0)), some (vI (iN (5 * c))), a6, a7, a8] [] h) := by
  have q0 : (iN (5 * c)).toNatClampNeg = 5 * c := n_i (by omega)
  have q1 : iN (5 * c) + 1 = iN (5 * c + 1) := iN_add _ 1
  have q2 : iN (5 * c) + 2 = iN (5 * c + 2) := iN_add _ 2
  have q3 : iN (5 * c) + 3 = iN (5 * c + 3) := iN_add _ 3
  have q4 : iN (5 * c) + 4 = iN (5 * c + 4) := iN_add _ 4
  have b1 : inB (iN (5 * c + 1)) L := inB_of (by omega) (by omega)
  have b2 : inB (iN (5 * c + 2)) L := inB_of (by omega) (by omega)
  have b3 : inB (iN (5 * c + 3)) L := inB_of (by omega) (by omega)
  have b4 : inB (iN (5 * c + 4)) L := inB_of (by omega) (by omega)
  have t1 : (iN (5 * c + 1)).toNatClampNeg = 5 * c + 1 := n_i (by omega)
  have t2 : (iN (5 * c + 2)).toNatClampNeg = 5 * c + 2 := n_i (by omega)
  have t3 : (iN (5 * c + 3)).toNatClampNeg = 5 * c + 3 := n_i (by omega)
  have t4 : (iN (5 * c + 4)).toNatClampNeg = 5 * c + 4 := n_i (by omega)
  have hL := hI.1
  have b0 : inB (iN (5 * c)) L := inB_of (by omega) (by omega)
  have e5 : Int32.ofNat L - 5 = iN (L - 5) := iN_sub (b := 5) (by omega)
  have hn : ¬ iN (L - 5) < iN (5 * c) := nlt32' (ile (by omega) (by omega))
  have s2 : 2 ≤ 9 ∧ 9 ≤ 10 := ⟨by decide, by decide⟩
  have e : Ev (d + 21) 278 28 [some (vR (40, 0, 0)), some (vR (1, 0, 0)), some (vR (20, 0, 0)), some (vR (30, 0, 0)), some (vR (31, 0, 0)), some (vI (iN (5 * c))), a6, a7, a8] [] h = Ev (d + 21) 278 44 [some (vR (40, 0, 0)), some (vR (1, 0, 0)), some (vR (20, 0, 0)), some (vR (30, 0, 0)), some (vR (31, 0, 0)), some (vI (iN (5 * c))), a6, a7, a8] [vI (xs (5 * c) &&& 63)] h := by
    simp only [v278_28, v278_30, v278_31, v278_32, v278_33, v278_34, v278_37, v278_38, v278_40, v278_41, v278_43, n_14, n_8, inB_of, Nat.reduceLT, Prod.mk.injEq, true_and, rB, rBn, rBa, rBb, rBc, rBd, Evk_v, Evk_n, Nat.reduceAdd, Nat.reduceLeDiff, Nat.le_refl, Nat.zero_le, cz_0, cz_1, cI_1, cO_1, cz_2, cI_2, cO_2, cL_2, cD_2, cz_3, cI_3, cO_3, cL_3, cD_3, cz_4, cI_4, cO_4, cL_4, cD_4, cz_5, cI_5, cO_5, cL_5, cD_5, cz_6, cI_6, cO_6, cL_6, cD_6, cz_7, cI_7, cO_7, cL_7, cD_7, cz_8, cI_8, cO_8, cL_8, cD_8, List.mem_cons, or_true, true_or, and_self, sI_S, sL_S, sR_S, sD_S, gb_S, sI_R, sL_R, sD_R, gb_R, sI_L, sR_I, sR_L, sL_I, sD_I, sD_L, gb_I, gb_L, y_S40 hL, y_V40 hL, e5, if_neg hn, b0, q0, s2]
  rw [e]
  exact law_sw hI hc hl
theorem lawL (hl : L ≤ 2560) : ∀ r c h a6 a7 a8, c + r = L / 5 → Inv L xs h → ∃ h', Ev (d + 21) 278 28 [some (vR (40, 0, 0)), some (vR (1, 0, 0)), some (vR (20, 0, 0)), some (vR (30, 0, 0)), some (vR (31, 0, 0)), some (vI (iN (5 * c))), a6, a7, a8] [] h = some (.inl (some (vI 1)), h') ∧ cu h' ≤ cu h + r ∧ su h' ≤ su h + 6 * r := by
  intro r
  induction r with
  | zero =>
    intro c h a6 a7 a8 hr hI
    have hL := hI.1
    have hn : Int32.ofNat L - 5 < iN (5 * c) := by
      rw [Int32.lt_iff_toInt_lt]
      have e1 : (Int32.ofNat L - 5).toInt = (L : Int) - 5 := by
        have := sub_i (a := L) (b := 5) (by omega) (by decide)
        exact this
      rw [e1, iN_i (by omega)]
      omega
    have s2 : 2 ≤ 9 ∧ 9 ≤ 10 := ⟨by decide, by decide⟩
    have i1 : (1 : Int32) = 0 ∨ (1 : Int32) = 1 := Or.inr rfl
    refine ⟨h, ?_, Nat.le_refl _, Nat.le_refl _⟩
    simp only [v278_28, v278_30, v278_31, v278_32, v278_33, v278_34, v278_2581, v278_2582, n_14, n_8, inB_of, Nat.reduceLT, Prod.mk.injEq, true_and, rB, rBn, rBa, rBb, rBc, rBd, Evk_v, Evk_n, Nat.reduceAdd, Nat.reduceLeDiff, Nat.le_refl, Nat.zero_le, cz_0, cz_1, cI_1, cO_1, cz_2, cI_2, cO_2, cL_2, cD_2, cz_3, cI_3, cO_3, cL_3, cD_3, cz_4, cI_4, cO_4, cL_4, cD_4, cz_5, cI_5, cO_5, cL_5, cD_5, cz_6, cI_6, cO_6, cL_6, cD_6, cz_7, cI_7, cO_7, cL_7, cD_7, cz_8, cI_8, cO_8, cL_8, cD_8, List.mem_cons, or_true, true_or, and_self, sI_S, sL_S, sR_S, sD_S, gb_S, sI_R, sL_R, sD_R, gb_R, sI_L, sR_I, sR_L, sL_I, sD_I, sD_L, gb_I, gb_L, y_S40 hL, if_pos hn, s2, i1]
  | succ r ih =>
    intro c h a6 a7 a8 hr hI
    obtain ⟨b6, b7, b8, h1, e, i1, n1, n2, n3⟩ := law_st (d := d) (c := c) (a6 := a6) (a7 := a7) (a8 := a8) hI (by omega) hl
    obtain ⟨h2, e2, m2, m3⟩ := ih (c + 1) h1 b6 b7 b8 (by omega) i1
    have e5 : iN (5 * c) + 5 = iN (5 * (c + 1)) := iN_add _ 5
    refine ⟨h2, ?_, by omega, by omega⟩
    rw [e, v278_2575, v278_2578, e5]
    exact e2
end LawL
