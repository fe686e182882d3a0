/-! THE LAW'S LOOP: cases 31 to 37 -/



section LawC90
variable {L : Nat} {xs : Nat → Int32} {h : Hp} {d c : Nat}
theorem L31 (hI : Inv L xs h) (hc : 5 * c + 5 ≤ L) (hl : L ≤ 2560) {a6 a7 a8 : Option MV} : LG L xs d c h (Ev (d + 21) 278 2263 [some (vR (40, 0, 0)), some (vR (1, 0, 0)), some (vR (20, 0, 0)), some (vR (30, 0, 0)), some (vR (31, 0, 0)), some (vI (iN (5 * c))), a6, a7, a8] [] h) := by
  have q0 : (iN (5 * c)).toNatClampNeg = 5 * c := n_i (by omega)
  have q1 : iN (5 * c) + 1 = iN (5 * c + 1) := iN_add _ 1
  have q2 : iN (5 * c) + 2 = iN (5 * c + 2) := iN_add _ 2
  have q3 : iN (5 * c) + 3 = iN (5 * c + 3) := iN_add _ 3
  have q4 : iN (5 * c) + 4 = iN (5 * c + 4) := iN_add _ 4
  have b1 : inB (iN (5 * c + 1)) L := inB_of (by omega) (by omega)
  have b2 : inB (iN (5 * c + 2)) L := inB_of (by omega) (by omega)
  have b3 : inB (iN (5 * c + 3)) L := inB_of (by omega) (by omega)
  have b4 : inB (iN (5 * c + 4)) L := inB_of (by omega) (by omega)
  have t1 : (iN (5 * c + 1)).toNatClampNeg = 5 * c + 1 := n_i (by omega)
  have t2 : (iN (5 * c + 2)).toNatClampNeg = 5 * c + 2 := n_i (by omega)
  have t3 : (iN (5 * c + 3)).toNatClampNeg = 5 * c + 3 := n_i (by omega)
  have t4 : (iN (5 * c + 4)).toNatClampNeg = 5 * c + 4 := n_i (by omega)
  obtain ⟨hL, P, H, X, ci, mi, wi⟩ := hI
  obtain ⟨k, v, h1, h2, e1, e2, e3, e4, i2, n1, n2, n3⟩ := c31 (d := d) hL ci mi wi
  obtain ⟨s20, s40, i40⟩ := sc_S (Ev_S e1) hL
  have hL2 := i2.1
  refine ⟨some (vI k), some (vD v), none, h2, ?_, i2, n1, n2, n3⟩
  by_cases z : k = 0
  · obtain ⟨z1, z2⟩ := e4 z
    simp only [v278_2263, v278_2264, v278_2266, v278_2269, v278_2271, v278_2272, v278_2275, v278_2277, v278_2278, v278_2281, v278_2283, v278_2286, v278_2287, v278_2288, v278_2290, v278_2293, v278_2295, v278_2296, v278_2297, v278_2299, v278_2300, v278_2303, v278_2305, v278_2306, v278_2307, v278_2309, v278_2310, v278_2311, v278_2312, v278_2315, v278_2317, v278_2319, v278_2320, v278_2323, v278_2324, v278_2325, n_14, n_8, inB_of, Nat.reduceLT, Prod.mk.injEq, true_and, rB, rBn, rBa, rBb, rBc, rBd, Evk_v, Evk_n, Nat.reduceAdd, Nat.reduceLeDiff, Nat.le_refl, Nat.zero_le, cz_0, cz_1, cI_1, cO_1, cz_2, cI_2, cO_2, cL_2, cD_2, cz_3, cI_3, cO_3, cL_3, cD_3, cz_4, cI_4, cO_4, cL_4, cD_4, cz_5, cI_5, cO_5, cL_5, cD_5, cz_6, cI_6, cO_6, cL_6, cD_6, cz_7, cI_7, cO_7, cL_7, cD_7, cz_8, cI_8, cO_8, cL_8, cD_8, List.mem_cons, or_true, true_or, and_self, sI_S, sL_S, sR_S, sD_S, gb_S, sI_R, sL_R, sD_R, gb_R, sI_L, sR_I, sR_L, sL_I, sD_I, sD_L, gb_I, gb_L, q1, q2, q3, q4, b1, b2, b3, b4, t1, t2, t3, t4, y_S1 hL, y_S20 hL, y_S40 hL, y_V40 hL, s20, s40, i40, e1, e2, y_S20 hL2, y_S31 hL2, m140 hL2, if_pos e3, if_pos z, z1, if_pos z2, j_01, n_z0]
  · simp only [v278_2263, v278_2264, v278_2266, v278_2269, v278_2271, v278_2272, v278_2275, v278_2277, v278_2278, v278_2281, v278_2283, v278_2286, v278_2287, v278_2288, v278_2290, v278_2293, v278_2295, v278_2296, v278_2297, v278_2299, v278_2300, v278_2303, v278_2305, v278_2306, v278_2307, v278_2309, v278_2310, v278_2311, v278_2312, v278_2315, v278_2317, v278_2319, v278_2320, v278_2323, v278_2324, v278_2325, n_14, n_8, inB_of, Nat.reduceLT, Prod.mk.injEq, true_and, rB, rBn, rBa, rBb, rBc, rBd, Evk_v, Evk_n, Nat.reduceAdd, Nat.reduceLeDiff, Nat.le_refl, Nat.zero_le, cz_0, cz_1, cI_1, cO_1, cz_2, cI_2, cO_2, cL_2, cD_2, cz_3, cI_3, cO_3, cL_3, cD_3, cz_4, cI_4, cO_4, cL_4, cD_4, cz_5, cI_5, cO_5, cL_5, cD_5, cz_6, cI_6, cO_6, cL_6, cD_6, cz_7, cI_7, cO_7, cL_7, cD_7, cz_8, cI_8, cO_8, cL_8, cD_8, List.mem_cons, or_true, true_or, and_self, sI_S, sL_S, sR_S, sD_S, gb_S, sI_R, sL_R, sD_R, gb_R, sI_L, sR_I, sR_L, sL_I, sD_I, sD_L, gb_I, gb_L, q1, q2, q3, q4, b1, b2, b3, b4, t1, t2, t3, t4, y_S1 hL, y_S20 hL, y_S40 hL, y_V40 hL, s20, s40, i40, e1, e2, y_S20 hL2, y_S31 hL2, m140 hL2, if_pos e3, if_neg z]
theorem L32 (hI : Inv L xs h) (hc : 5 * c + 5 ≤ L) (hl : L ≤ 2560) {a6 a7 a8 : Option MV} : LG L xs d c h (Ev (d + 21) 278 2328 [some (vR (40, 0, 0)), some (vR (1, 0, 0)), some (vR (20, 0, 0)), some (vR (30, 0, 0)), some (vR (31, 0, 0)), some (vI (iN (5 * c))), a6, a7, a8] [] h) := by
  have q0 : (iN (5 * c)).toNatClampNeg = 5 * c := n_i (by omega)
  have q1 : iN (5 * c) + 1 = iN (5 * c + 1) := iN_add _ 1
  have q2 : iN (5 * c) + 2 = iN (5 * c + 2) := iN_add _ 2
  have q3 : iN (5 * c) + 3 = iN (5 * c + 3) := iN_add _ 3
  have q4 : iN (5 * c) + 4 = iN (5 * c + 4) := iN_add _ 4
  have b1 : inB (iN (5 * c + 1)) L := inB_of (by omega) (by omega)
  have b2 : inB (iN (5 * c + 2)) L := inB_of (by omega) (by omega)
  have b3 : inB (iN (5 * c + 3)) L := inB_of (by omega) (by omega)
  have b4 : inB (iN (5 * c + 4)) L := inB_of (by omega) (by omega)
  have t1 : (iN (5 * c + 1)).toNatClampNeg = 5 * c + 1 := n_i (by omega)
  have t2 : (iN (5 * c + 2)).toNatClampNeg = 5 * c + 2 := n_i (by omega)
  have t3 : (iN (5 * c + 3)).toNatClampNeg = 5 * c + 3 := n_i (by omega)
  have t4 : (iN (5 * c + 4)).toNatClampNeg = 5 * c + 4 := n_i (by omega)
  obtain ⟨hL, P, H, X, ci, mi, wi⟩ := hI
  obtain ⟨k, b, h1, h2, e1, e2, e3, e4, i2, n1, n2, n3⟩ := c32 (d := d) hL ci mi wi (x := ((xs (5 * c + 1)).toUInt32 % 65536).toInt32)
  obtain ⟨s20, s40, i40⟩ := sc_S (Ev_S e1) hL
  have hL2 := i2.1
  refine ⟨some (vI k), some (vI b), a8, h2, ?_, i2, n1, n2, n3⟩
  by_cases z : k = 0
  · have e6 : lg_cmp (gL h2 (30, 0, 0) 0) b.toInt64 = 0 := by rw [e4 z]; exact lg_self
    simp only [v278_2328, v278_2329, v278_2330, v278_2332, v278_2333, v278_2334, v278_2335, v278_2336, v278_2337, v278_2340, v278_2342, v278_2343, v278_2344, v278_2346, v278_2347, v278_2348, v278_2349, v278_2350, v278_2353, v278_2355, v278_2356, v278_2359, v278_2361, v278_2364, v278_2365, v278_2366, v278_2368, v278_2371, v278_2372, v278_2373, v278_2374, v278_2376, v278_2377, v278_2378, v278_2381, v278_2382, v278_2383, n_14, n_8, inB_of, Nat.reduceLT, Prod.mk.injEq, true_and, rB, rBn, rBa, rBb, rBc, rBd, Evk_v, Evk_n, Nat.reduceAdd, Nat.reduceLeDiff, Nat.le_refl, Nat.zero_le, cz_0, cz_1, cI_1, cO_1, cz_2, cI_2, cO_2, cL_2, cD_2, cz_3, cI_3, cO_3, cL_3, cD_3, cz_4, cI_4, cO_4, cL_4, cD_4, cz_5, cI_5, cO_5, cL_5, cD_5, cz_6, cI_6, cO_6, cL_6, cD_6, cz_7, cI_7, cO_7, cL_7, cD_7, cz_8, cI_8, cO_8, cL_8, cD_8, List.mem_cons, or_true, true_or, and_self, sI_S, sL_S, sR_S, sD_S, gb_S, sI_R, sL_R, sD_R, gb_R, sI_L, sR_I, sR_L, sL_I, sD_I, sD_L, gb_I, gb_L, q1, q2, q3, q4, b1, b2, b3, b4, t1, t2, t3, t4, y_S1 hL, y_S20 hL, y_S40 hL, y_V40 hL, s20, s40, i40, e1, e2, y_S20 hL2, y_S30 hL2, m140 hL2, if_pos e3, j_01, n_z0, if_pos z, if_pos e6]
  · simp only [v278_2328, v278_2329, v278_2330, v278_2332, v278_2333, v278_2334, v278_2335, v278_2336, v278_2337, v278_2340, v278_2342, v278_2343, v278_2344, v278_2346, v278_2347, v278_2348, v278_2349, v278_2350, v278_2353, v278_2355, v278_2356, v278_2359, v278_2361, v278_2364, v278_2365, v278_2366, v278_2368, v278_2371, v278_2372, v278_2373, v278_2374, v278_2376, v278_2377, v278_2378, v278_2381, v278_2382, v278_2383, n_14, n_8, inB_of, Nat.reduceLT, Prod.mk.injEq, true_and, rB, rBn, rBa, rBb, rBc, rBd, Evk_v, Evk_n, Nat.reduceAdd, Nat.reduceLeDiff, Nat.le_refl, Nat.zero_le, cz_0, cz_1, cI_1, cO_1, cz_2, cI_2, cO_2, cL_2, cD_2, cz_3, cI_3, cO_3, cL_3, cD_3, cz_4, cI_4, cO_4, cL_4, cD_4, cz_5, cI_5, cO_5, cL_5, cD_5, cz_6, cI_6, cO_6, cL_6, cD_6, cz_7, cI_7, cO_7, cL_7, cD_7, cz_8, cI_8, cO_8, cL_8, cD_8, List.mem_cons, or_true, true_or, and_self, sI_S, sL_S, sR_S, sD_S, gb_S, sI_R, sL_R, sD_R, gb_R, sI_L, sR_I, sR_L, sL_I, sD_I, sD_L, gb_I, gb_L, q1, q2, q3, q4, b1, b2, b3, b4, t1, t2, t3, t4, y_S1 hL, y_S20 hL, y_S40 hL, y_V40 hL, s20, s40, i40, e1, e2, y_S20 hL2, y_S30 hL2, m140 hL2, if_pos e3, j_01, n_z0, if_neg z]
theorem L33 (hI : Inv L xs h) (hc : 5 * c + 5 ≤ L) (hl : L ≤ 2560) {a6 a7 a8 : Option MV} : LG L xs d c h (Ev (d + 21) 278 2386 [some (vR (40, 0, 0)), some (vR (1, 0, 0)), some (vR (20, 0, 0)), some (vR (30, 0, 0)), some (vR (31, 0, 0)), some (vI (iN (5 * c))), a6, a7, a8] [] h) := by
  have q0 : (iN (5 * c)).toNatClampNeg = 5 * c := n_i (by omega)
  have q1 : iN (5 * c) + 1 = iN (5 * c + 1) := iN_add _ 1
  have q2 : iN (5 * c) + 2 = iN (5 * c + 2) := iN_add _ 2
  have q3 : iN (5 * c) + 3 = iN (5 * c + 3) := iN_add _ 3
  have q4 : iN (5 * c) + 4 = iN (5 * c + 4) := iN_add _ 4
  have b1 : inB (iN (5 * c + 1)) L := inB_of (by omega) (by omega)
  have b2 : inB (iN (5 * c + 2)) L := inB_of (by omega) (by omega)
  have b3 : inB (iN (5 * c + 3)) L := inB_of (by omega) (by omega)
  have b4 : inB (iN (5 * c + 4)) L := inB_of (by omega) (by omega)
  have t1 : (iN (5 * c + 1)).toNatClampNeg = 5 * c + 1 := n_i (by omega)
  have t2 : (iN (5 * c + 2)).toNatClampNeg = 5 * c + 2 := n_i (by omega)
  have t3 : (iN (5 * c + 3)).toNatClampNeg = 5 * c + 3 := n_i (by omega)
  have t4 : (iN (5 * c + 4)).toNatClampNeg = 5 * c + 4 := n_i (by omega)
  obtain ⟨hL, P, H, X, ci, mi, wi⟩ := hI
  obtain ⟨k, b, h1, h2, e1, e2, e3, e4, i2, n1, n2, n3⟩ := c33 (d := d) hL ci mi wi
  obtain ⟨s20, s40, i40⟩ := sc_S (Ev_S e1) hL
  have hL2 := i2.1
  refine ⟨some (vI k), some (vI b), a8, h2, ?_, i2, n1, n2, n3⟩
  by_cases z : k = 0
  · have e6 : lg_cmp (gL h2 (30, 0, 0) 0) b.toInt64 = 0 := by rw [e4 z]; exact lg_self
    simp only [v278_2386, v278_2387, v278_2388, v278_2391, v278_2393, v278_2394, v278_2397, v278_2399, v278_2400, v278_2403, v278_2405, v278_2408, v278_2409, v278_2410, v278_2412, v278_2415, v278_2416, v278_2417, v278_2418, v278_2420, v278_2421, v278_2422, v278_2425, v278_2426, v278_2427, n_14, n_8, inB_of, Nat.reduceLT, Prod.mk.injEq, true_and, rB, rBn, rBa, rBb, rBc, rBd, Evk_v, Evk_n, Nat.reduceAdd, Nat.reduceLeDiff, Nat.le_refl, Nat.zero_le, cz_0, cz_1, cI_1, cO_1, cz_2, cI_2, cO_2, cL_2, cD_2, cz_3, cI_3, cO_3, cL_3, cD_3, cz_4, cI_4, cO_4, cL_4, cD_4, cz_5, cI_5, cO_5, cL_5, cD_5, cz_6, cI_6, cO_6, cL_6, cD_6, cz_7, cI_7, cO_7, cL_7, cD_7, cz_8, cI_8, cO_8, cL_8, cD_8, List.mem_cons, or_true, true_or, and_self, sI_S, sL_S, sR_S, sD_S, gb_S, sI_R, sL_R, sD_R, gb_R, sI_L, sR_I, sR_L, sL_I, sD_I, sD_L, gb_I, gb_L, q1, q2, q3, q4, b1, b2, b3, b4, t1, t2, t3, t4, y_S1 hL, y_S20 hL, y_S40 hL, y_V40 hL, s20, s40, i40, e1, e2, y_S20 hL2, y_S30 hL2, m140 hL2, if_pos e3, j_01, n_z0, if_pos z, if_pos e6]
  · simp only [v278_2386, v278_2387, v278_2388, v278_2391, v278_2393, v278_2394, v278_2397, v278_2399, v278_2400, v278_2403, v278_2405, v278_2408, v278_2409, v278_2410, v278_2412, v278_2415, v278_2416, v278_2417, v278_2418, v278_2420, v278_2421, v278_2422, v278_2425, v278_2426, v278_2427, n_14, n_8, inB_of, Nat.reduceLT, Prod.mk.injEq, true_and, rB, rBn, rBa, rBb, rBc, rBd, Evk_v, Evk_n, Nat.reduceAdd, Nat.reduceLeDiff, Nat.le_refl, Nat.zero_le, cz_0, cz_1, cI_1, cO_1, cz_2, cI_2, cO_2, cL_2, cD_2, cz_3, cI_3, cO_3, cL_3, cD_3, cz_4, cI_4, cO_4, cL_4, cD_4, cz_5, cI_5, cO_5, cL_5, cD_5, cz_6, cI_6, cO_6, cL_6, cD_6, cz_7, cI_7, cO_7, cL_7, cD_7, cz_8, cI_8, cO_8, cL_8, cD_8, List.mem_cons, or_true, true_or, and_self, sI_S, sL_S, sR_S, sD_S, gb_S, sI_R, sL_R, sD_R, gb_R, sI_L, sR_I, sR_L, sL_I, sD_I, sD_L, gb_I, gb_L, q1, q2, q3, q4, b1, b2, b3, b4, t1, t2, t3, t4, y_S1 hL, y_S20 hL, y_S40 hL, y_V40 hL, s20, s40, i40, e1, e2, y_S20 hL2, y_S30 hL2, m140 hL2, if_pos e3, j_01, n_z0, if_neg z]
theorem L34 (hI : Inv L xs h) (hc : 5 * c + 5 ≤ L) (hl : L ≤ 2560) {a6 a7 a8 : Option MV} : LG L xs d c h (Ev (d + 21) 278 2430 [some (vR (40, 0, 0)), some (vR (1, 0, 0)), some (vR (20, 0, 0)), some (vR (30, 0, 0)), some (vR (31, 0, 0)), some (vI (iN (5 * c))), a6, a7, a8] [] h) := by
  have q0 : (iN (5 * c)).toNatClampNeg = 5 * c := n_i (by omega)
  have q1 : iN (5 * c) + 1 = iN (5 * c + 1) := iN_add _ 1
  have q2 : iN (5 * c) + 2 = iN (5 * c + 2) := iN_add _ 2
  have q3 : iN (5 * c) + 3 = iN (5 * c + 3) := iN_add _ 3
  have q4 : iN (5 * c) + 4 = iN (5 * c + 4) := iN_add _ 4
  have b1 : inB (iN (5 * c + 1)) L := inB_of (by omega) (by omega)
  have b2 : inB (iN (5 * c + 2)) L := inB_of (by omega) (by omega)
  have b3 : inB (iN (5 * c + 3)) L := inB_of (by omega) (by omega)
  have b4 : inB (iN (5 * c + 4)) L := inB_of (by omega) (by omega)
  have t1 : (iN (5 * c + 1)).toNatClampNeg = 5 * c + 1 := n_i (by omega)
  have t2 : (iN (5 * c + 2)).toNatClampNeg = 5 * c + 2 := n_i (by omega)
  have t3 : (iN (5 * c + 3)).toNatClampNeg = 5 * c + 3 := n_i (by omega)
  have t4 : (iN (5 * c + 4)).toNatClampNeg = 5 * c + 4 := n_i (by omega)
  obtain ⟨hL, P, H, X, ci, mi, wi⟩ := hI
  obtain ⟨k, b, h1, h2, e1, e2, e3, e4, i2, n1, n2, n3⟩ := c34 (d := d) hL ci mi wi
  obtain ⟨s20, s40, i40⟩ := sc_S (Ev_S e1) hL
  have hL2 := i2.1
  refine ⟨some (vI k), some (vI b), a8, h2, ?_, i2, n1, n2, n3⟩
  by_cases z : k = 0
  · have e6 : lg_cmp (gL h2 (30, 0, 0) 0) b.toInt64 = 0 := by rw [e4 z]; exact lg_self
    simp only [v278_2430, v278_2431, v278_2432, v278_2435, v278_2437, v278_2438, v278_2441, v278_2443, v278_2444, v278_2447, v278_2449, v278_2452, v278_2453, v278_2454, v278_2456, v278_2459, v278_2460, v278_2461, v278_2462, v278_2464, v278_2465, v278_2466, v278_2469, v278_2470, v278_2471, n_14, n_8, inB_of, Nat.reduceLT, Prod.mk.injEq, true_and, rB, rBn, rBa, rBb, rBc, rBd, Evk_v, Evk_n, Nat.reduceAdd, Nat.reduceLeDiff, Nat.le_refl, Nat.zero_le, cz_0, cz_1, cI_1, cO_1, cz_2, cI_2, cO_2, cL_2, cD_2, cz_3, cI_3, cO_3, cL_3, cD_3, cz_4, cI_4, cO_4, cL_4, cD_4, cz_5, cI_5, cO_5, cL_5, cD_5, cz_6, cI_6, cO_6, cL_6, cD_6, cz_7, cI_7, cO_7, cL_7, cD_7, cz_8, cI_8, cO_8, cL_8, cD_8, List.mem_cons, or_true, true_or, and_self, sI_S, sL_S, sR_S, sD_S, gb_S, sI_R, sL_R, sD_R, gb_R, sI_L, sR_I, sR_L, sL_I, sD_I, sD_L, gb_I, gb_L, q1, q2, q3, q4, b1, b2, b3, b4, t1, t2, t3, t4, y_S1 hL, y_S20 hL, y_S40 hL, y_V40 hL, s20, s40, i40, e1, e2, y_S20 hL2, y_S30 hL2, m140 hL2, if_pos e3, j_01, n_z0, if_pos z, if_pos e6]
  · simp only [v278_2430, v278_2431, v278_2432, v278_2435, v278_2437, v278_2438, v278_2441, v278_2443, v278_2444, v278_2447, v278_2449, v278_2452, v278_2453, v278_2454, v278_2456, v278_2459, v278_2460, v278_2461, v278_2462, v278_2464, v278_2465, v278_2466, v278_2469, v278_2470, v278_2471, n_14, n_8, inB_of, Nat.reduceLT, Prod.mk.injEq, true_and, rB, rBn, rBa, rBb, rBc, rBd, Evk_v, Evk_n, Nat.reduceAdd, Nat.reduceLeDiff, Nat.le_refl, Nat.zero_le, cz_0, cz_1, cI_1, cO_1, cz_2, cI_2, cO_2, cL_2, cD_2, cz_3, cI_3, cO_3, cL_3, cD_3, cz_4, cI_4, cO_4, cL_4, cD_4, cz_5, cI_5, cO_5, cL_5, cD_5, cz_6, cI_6, cO_6, cL_6, cD_6, cz_7, cI_7, cO_7, cL_7, cD_7, cz_8, cI_8, cO_8, cL_8, cD_8, List.mem_cons, or_true, true_or, and_self, sI_S, sL_S, sR_S, sD_S, gb_S, sI_R, sL_R, sD_R, gb_R, sI_L, sR_I, sR_L, sL_I, sD_I, sD_L, gb_I, gb_L, q1, q2, q3, q4, b1, b2, b3, b4, t1, t2, t3, t4, y_S1 hL, y_S20 hL, y_S40 hL, y_V40 hL, s20, s40, i40, e1, e2, y_S20 hL2, y_S30 hL2, m140 hL2, if_pos e3, j_01, n_z0, if_neg z]
theorem L35 (hI : Inv L xs h) (hc : 5 * c + 5 ≤ L) (hl : L ≤ 2560) {a6 a7 a8 : Option MV} : LG L xs d c h (Ev (d + 21) 278 2474 [some (vR (40, 0, 0)), some (vR (1, 0, 0)), some (vR (20, 0, 0)), some (vR (30, 0, 0)), some (vR (31, 0, 0)), some (vI (iN (5 * c))), a6, a7, a8] [] h) := by
  have q0 : (iN (5 * c)).toNatClampNeg = 5 * c := n_i (by omega)
  have q1 : iN (5 * c) + 1 = iN (5 * c + 1) := iN_add _ 1
  have q2 : iN (5 * c) + 2 = iN (5 * c + 2) := iN_add _ 2
  have q3 : iN (5 * c) + 3 = iN (5 * c + 3) := iN_add _ 3
  have q4 : iN (5 * c) + 4 = iN (5 * c + 4) := iN_add _ 4
  have b1 : inB (iN (5 * c + 1)) L := inB_of (by omega) (by omega)
  have b2 : inB (iN (5 * c + 2)) L := inB_of (by omega) (by omega)
  have b3 : inB (iN (5 * c + 3)) L := inB_of (by omega) (by omega)
  have b4 : inB (iN (5 * c + 4)) L := inB_of (by omega) (by omega)
  have t1 : (iN (5 * c + 1)).toNatClampNeg = 5 * c + 1 := n_i (by omega)
  have t2 : (iN (5 * c + 2)).toNatClampNeg = 5 * c + 2 := n_i (by omega)
  have t3 : (iN (5 * c + 3)).toNatClampNeg = 5 * c + 3 := n_i (by omega)
  have t4 : (iN (5 * c + 4)).toNatClampNeg = 5 * c + 4 := n_i (by omega)
  obtain ⟨hL, P, H, X, ci, mi, wi⟩ := hI
  obtain ⟨k, b, h1, h2, e1, e2, e3, e4, i2, n1, n2, n3⟩ := c35 (d := d) hL ci mi wi
  obtain ⟨s20, s40, i40⟩ := sc_S (Ev_S e1) hL
  have hL2 := i2.1
  refine ⟨some (vI k), some (vI b), a8, h2, ?_, i2, n1, n2, n3⟩
  by_cases z : k = 0
  · have e6 : lg_cmp (gL h2 (30, 0, 0) 0) b.toInt64 = 0 := by rw [e4 z]; exact lg_self
    simp only [v278_2474, v278_2475, v278_2476, v278_2479, v278_2481, v278_2482, v278_2485, v278_2487, v278_2488, v278_2491, v278_2493, v278_2496, v278_2497, v278_2498, v278_2500, v278_2503, v278_2504, v278_2505, v278_2506, v278_2508, v278_2509, v278_2510, v278_2513, v278_2514, v278_2515, n_14, n_8, inB_of, Nat.reduceLT, Prod.mk.injEq, true_and, rB, rBn, rBa, rBb, rBc, rBd, Evk_v, Evk_n, Nat.reduceAdd, Nat.reduceLeDiff, Nat.le_refl, Nat.zero_le, cz_0, cz_1, cI_1, cO_1, cz_2, cI_2, cO_2, cL_2, cD_2, cz_3, cI_3, cO_3, cL_3, cD_3, cz_4, cI_4, cO_4, cL_4, cD_4, cz_5, cI_5, cO_5, cL_5, cD_5, cz_6, cI_6, cO_6, cL_6, cD_6, cz_7, cI_7, cO_7, cL_7, cD_7, cz_8, cI_8, cO_8, cL_8, cD_8, List.mem_cons, or_true, true_or, and_self, sI_S, sL_S, sR_S, sD_S, gb_S, sI_R, sL_R, sD_R, gb_R, sI_L, sR_I, sR_L, sL_I, sD_I, sD_L, gb_I, gb_L, q1, q2, q3, q4, b1, b2, b3, b4, t1, t2, t3, t4, y_S1 hL, y_S20 hL, y_S40 hL, y_V40 hL, s20, s40, i40, e1, e2, y_S20 hL2, y_S30 hL2, m140 hL2, if_pos e3, j_01, n_z0, if_pos z, if_pos e6]
  · simp only [v278_2474, v278_2475, v278_2476, v278_2479, v278_2481, v278_2482, v278_2485, v278_2487, v278_2488, v278_2491, v278_2493, v278_2496, v278_2497, v278_2498, v278_2500, v278_2503, v278_2504, v278_2505, v278_2506, v278_2508, v278_2509, v278_2510, v278_2513, v278_2514, v278_2515, n_14, n_8, inB_of, Nat.reduceLT, Prod.mk.injEq, true_and, rB, rBn, rBa, rBb, rBc, rBd, Evk_v, Evk_n, Nat.reduceAdd, Nat.reduceLeDiff, Nat.le_refl, Nat.zero_le, cz_0, cz_1, cI_1, cO_1, cz_2, cI_2, cO_2, cL_2, cD_2, cz_3, cI_3, cO_3, cL_3, cD_3, cz_4, cI_4, cO_4, cL_4, cD_4, cz_5, cI_5, cO_5, cL_5, cD_5, cz_6, cI_6, cO_6, cL_6, cD_6, cz_7, cI_7, cO_7, cL_7, cD_7, cz_8, cI_8, cO_8, cL_8, cD_8, List.mem_cons, or_true, true_or, and_self, sI_S, sL_S, sR_S, sD_S, gb_S, sI_R, sL_R, sD_R, gb_R, sI_L, sR_I, sR_L, sL_I, sD_I, sD_L, gb_I, gb_L, q1, q2, q3, q4, b1, b2, b3, b4, t1, t2, t3, t4, y_S1 hL, y_S20 hL, y_S40 hL, y_V40 hL, s20, s40, i40, e1, e2, y_S20 hL2, y_S30 hL2, m140 hL2, if_pos e3, j_01, n_z0, if_neg z]
theorem L36 (hI : Inv L xs h) (hc : 5 * c + 5 ≤ L) (hl : L ≤ 2560) {a6 a7 a8 : Option MV} : LG L xs d c h (Ev (d + 21) 278 2518 [some (vR (40, 0, 0)), some (vR (1, 0, 0)), some (vR (20, 0, 0)), some (vR (30, 0, 0)), some (vR (31, 0, 0)), some (vI (iN (5 * c))), a6, a7, a8] [] h) := by
  have q0 : (iN (5 * c)).toNatClampNeg = 5 * c := n_i (by omega)
  have q1 : iN (5 * c) + 1 = iN (5 * c + 1) := iN_add _ 1
  have q2 : iN (5 * c) + 2 = iN (5 * c + 2) := iN_add _ 2
  have q3 : iN (5 * c) + 3 = iN (5 * c + 3) := iN_add _ 3
  have q4 : iN (5 * c) + 4 = iN (5 * c + 4) := iN_add _ 4
  have b1 : inB (iN (5 * c + 1)) L := inB_of (by omega) (by omega)
  have b2 : inB (iN (5 * c + 2)) L := inB_of (by omega) (by omega)
  have b3 : inB (iN (5 * c + 3)) L := inB_of (by omega) (by omega)
  have b4 : inB (iN (5 * c + 4)) L := inB_of (by omega) (by omega)
  have t1 : (iN (5 * c + 1)).toNatClampNeg = 5 * c + 1 := n_i (by omega)
  have t2 : (iN (5 * c + 2)).toNatClampNeg = 5 * c + 2 := n_i (by omega)
  have t3 : (iN (5 * c + 3)).toNatClampNeg = 5 * c + 3 := n_i (by omega)
  have t4 : (iN (5 * c + 4)).toNatClampNeg = 5 * c + 4 := n_i (by omega)
  obtain ⟨hL, P, H, X, ci, mi, wi⟩ := hI
  obtain ⟨k, h1, h2, e1, e2, i2, n1, n2, n3⟩ := c36 (d := d) hL ci mi wi
  obtain ⟨s20, s40, i40⟩ := sc_S (Ev_S e1) hL
  refine ⟨a6, a7, a8, h2, ?_, i2, n1, n2, n3⟩
  simp only [v278_2518, v278_2519, v278_2522, v278_2523, v278_2526, v278_2529, v278_2530, n_14, n_8, inB_of, Nat.reduceLT, Prod.mk.injEq, true_and, rB, rBn, rBa, rBb, rBc, rBd, Evk_v, Evk_n, Nat.reduceAdd, Nat.reduceLeDiff, Nat.le_refl, Nat.zero_le, cz_0, cz_1, cI_1, cO_1, cz_2, cI_2, cO_2, cL_2, cD_2, cz_3, cI_3, cO_3, cL_3, cD_3, cz_4, cI_4, cO_4, cL_4, cD_4, cz_5, cI_5, cO_5, cL_5, cD_5, cz_6, cI_6, cO_6, cL_6, cD_6, cz_7, cI_7, cO_7, cL_7, cD_7, cz_8, cI_8, cO_8, cL_8, cD_8, List.mem_cons, or_true, true_or, and_self, sI_S, sL_S, sR_S, sD_S, gb_S, sI_R, sL_R, sD_R, gb_R, sI_L, sR_I, sR_L, sL_I, sD_I, sD_L, gb_I, gb_L, q1, q2, q3, q4, b1, b2, b3, b4, t1, t2, t3, t4, y_S1 hL, y_S20 hL, y_S40 hL, y_V40 hL, s20, s40, i40, e1, e2, if_true]
theorem L37 (hI : Inv L xs h) (hc : 5 * c + 5 ≤ L) (hl : L ≤ 2560) {a6 a7 a8 : Option MV} : LG L xs d c h (Ev (d + 21) 278 2531 [some (vR (40, 0, 0)), some (vR (1, 0, 0)), some (vR (20, 0, 0)), some (vR (30, 0, 0)), some (vR (31, 0, 0)), some (vI (iN (5 * c))), a6, a7, a8] [] h) := by
  have q0 : (iN (5 * c)).toNatClampNeg = 5 * c := n_i (by omega)
  have q1 : iN (5 * c) + 1 = iN (5 * c + 1) := iN_add _ 1
  have q2 : iN (5 * c) + 2 = iN (5 * c + 2) := iN_add _ 2
  have q3 : iN (5 * c) + 3 = iN (5 * c + 3) := iN_add _ 3
  have q4 : iN (5 * c) + 4 = iN (5 * c + 4) := iN_add _ 4
  have b1 : inB (iN (5 * c + 1)) L := inB_of (by omega) (by omega)
  have b2 : inB (iN (5 * c + 2)) L := inB_of (by omega) (by omega)
  have b3 : inB (iN (5 * c + 3)) L := inB_of (by omega) (by omega)
  have b4 : inB (iN (5 * c + 4)) L := inB_of (by omega) (by omega)
  have t1 : (iN (5 * c + 1)).toNatClampNeg = 5 * c + 1 := n_i (by omega)
  have t2 : (iN (5 * c + 2)).toNatClampNeg = 5 * c + 2 := n_i (by omega)
  have t3 : (iN (5 * c + 3)).toNatClampNeg = 5 * c + 3 := n_i (by omega)
  have t4 : (iN (5 * c + 4)).toNatClampNeg = 5 * c + 4 := n_i (by omega)
  obtain ⟨hL, P, H, X, ci, mi, wi⟩ := hI
  obtain ⟨k, b, h1, h2, e1, e2, e3, e4, i2, n1, n2, n3⟩ := c37 (d := d) hL ci mi wi
  obtain ⟨s20, s40, i40⟩ := sc_S (Ev_S e1) hL
  have hL2 := i2.1
  refine ⟨some (vI k), some (vI b), a8, h2, ?_, i2, n1, n2, n3⟩
  by_cases z : k = 0
  · have e6 : lg_cmp (gL h2 (30, 0, 0) 0) b.toInt64 = 0 := by rw [e4 z]; exact lg_self
    simp only [v278_2531, v278_2532, v278_2533, v278_2536, v278_2538, v278_2539, v278_2542, v278_2544, v278_2545, v278_2548, v278_2550, v278_2553, v278_2554, v278_2555, v278_2557, v278_2560, v278_2561, v278_2562, v278_2563, v278_2565, v278_2566, v278_2567, v278_2570, v278_2571, v278_2572, n_14, n_8, inB_of, Nat.reduceLT, Prod.mk.injEq, true_and, rB, rBn, rBa, rBb, rBc, rBd, Evk_v, Evk_n, Nat.reduceAdd, Nat.reduceLeDiff, Nat.le_refl, Nat.zero_le, cz_0, cz_1, cI_1, cO_1, cz_2, cI_2, cO_2, cL_2, cD_2, cz_3, cI_3, cO_3, cL_3, cD_3, cz_4, cI_4, cO_4, cL_4, cD_4, cz_5, cI_5, cO_5, cL_5, cD_5, cz_6, cI_6, cO_6, cL_6, cD_6, cz_7, cI_7, cO_7, cL_7, cD_7, cz_8, cI_8, cO_8, cL_8, cD_8, List.mem_cons, or_true, true_or, and_self, sI_S, sL_S, sR_S, sD_S, gb_S, sI_R, sL_R, sD_R, gb_R, sI_L, sR_I, sR_L, sL_I, sD_I, sD_L, gb_I, gb_L, q1, q2, q3, q4, b1, b2, b3, b4, t1, t2, t3, t4, y_S1 hL, y_S20 hL, y_S40 hL, y_V40 hL, s20, s40, i40, e1, e2, y_S20 hL2, y_S30 hL2, m140 hL2, if_pos e3, j_01, n_z0, if_pos z, if_pos e6]
  · simp only [v278_2531, v278_2532, v278_2533, v278_2536, v278_2538, v278_2539, v278_2542, v278_2544, v278_2545, v278_2548, v278_2550, v278_2553, v278_2554, v278_2555, v278_2557, v278_2560, v278_2561, v278_2562, v278_2563, v278_2565, v278_2566, v278_2567, v278_2570, v278_2571, v278_2572, n_14, n_8, inB_of, Nat.reduceLT, Prod.mk.injEq, true_and, rB, rBn, rBa, rBb, rBc, rBd, Evk_v, Evk_n, Nat.reduceAdd, Nat.reduceLeDiff, Nat.le_refl, Nat.zero_le, cz_0, cz_1, cI_1, cO_1, cz_2, cI_2, cO_2, cL_2, cD_2, cz_3, cI_3, cO_3, cL_3, cD_3, cz_4, cI_4, cO_4, cL_4, cD_4, cz_5, cI_5, cO_5, cL_5, cD_5, cz_6, cI_6, cO_6, cL_6, cD_6, cz_7, cI_7, cO_7, cL_7, cD_7, cz_8, cI_8, cO_8, cL_8, cD_8, List.mem_cons, or_true, true_or, and_self, sI_S, sL_S, sR_S, sD_S, gb_S, sI_R, sL_R, sD_R, gb_R, sI_L, sR_I, sR_L, sL_I, sD_I, sD_L, gb_I, gb_L, q1, q2, q3, q4, b1, b2, b3, b4, t1, t2, t3, t4, y_S1 hL, y_S20 hL, y_S40 hL, y_V40 hL, s20, s40, i40, e1, e2, y_S20 hL2, y_S30 hL2, m140 hL2, if_pos e3, j_01, n_z0, if_neg z]
end LawC90
