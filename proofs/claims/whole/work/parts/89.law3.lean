/-! THE LAW'S LOOP: cases 20 to 30 -/



section LawC89
variable {L : Nat} {xs : Nat → Int32} {h : Hp} {d c : Nat}
theorem L20 (hI : Inv L xs h) (hc : 5 * c + 5 ≤ L) (hl : L ≤ 2560) {a6 a7 a8 : Option MV} : LG L xs d c h (Ev (d + 21) 278 1630 [some (vR (40, 0, 0)), some (vR (1, 0, 0)), some (vR (20, 0, 0)), some (vR (30, 0, 0)), some (vR (31, 0, 0)), some (vI (iN (5 * c))), a6, a7, a8] [] h) := by
  have q0 : (iN (5 * c)).toNatClampNeg = 5 * c := n_i (by omega)
  have q1 : iN (5 * c) + 1 = iN (5 * c + 1) := iN_add _ 1
  have q2 : iN (5 * c) + 2 = iN (5 * c + 2) := iN_add _ 2
  have q3 : iN (5 * c) + 3 = iN (5 * c + 3) := iN_add _ 3
  have q4 : iN (5 * c) + 4 = iN (5 * c + 4) := iN_add _ 4
  have b1 : inB (iN (5 * c + 1)) L := inB_of (by omega) (by omega)
  have b2 : inB (iN (5 * c + 2)) L := inB_of (by omega) (by omega)
  have b3 : inB (iN (5 * c + 3)) L := inB_of (by omega) (by omega)
  have b4 : inB (iN (5 * c + 4)) L := inB_of (by omega) (by omega)
  have t1 : (iN (5 * c + 1)).toNatClampNeg = 5 * c + 1 := n_i (by omega)
  have t2 : (iN (5 * c + 2)).toNatClampNeg = 5 * c + 2 := n_i (by omega)
  have t3 : (iN (5 * c + 3)).toNatClampNeg = 5 * c + 3 := n_i (by omega)
  have t4 : (iN (5 * c + 4)).toNatClampNeg = 5 * c + 4 := n_i (by omega)
  obtain ⟨hL, P, H, X, ci, mi, wi⟩ := hI
  obtain ⟨k, b, h1, h2, e1, e2, e3, e4, i2, n1, n2, n3⟩ := c20 (d := d) hL ci mi wi (x := xs (5 * c + 1)) (y := xs (5 * c + 2)) (z := xs (5 * c + 3)) (u := xs (5 * c + 4))
  obtain ⟨s20, s40, i40⟩ := sc_S (Ev_S e1) hL
  have hL2 := i2.1
  refine ⟨some (vI k), some (vI b), a8, h2, ?_, i2, n1, n2, n3⟩
  by_cases z : k = 0
  · have e6 : lg_cmp (gL h2 (30, 0, 0) 0) b.toInt64 = 0 := by rw [e4 z]; exact lg_self
    simp only [v278_1630, v278_1631, v278_1632, v278_1634, v278_1635, v278_1636, v278_1637, v278_1638, v278_1640, v278_1641, v278_1642, v278_1643, v278_1644, v278_1646, v278_1647, v278_1648, v278_1649, v278_1650, v278_1652, v278_1653, v278_1654, v278_1655, v278_1656, v278_1659, v278_1661, v278_1662, v278_1663, v278_1665, v278_1666, v278_1667, v278_1668, v278_1669, v278_1671, v278_1672, v278_1673, v278_1674, v278_1675, v278_1677, v278_1678, v278_1679, v278_1680, v278_1681, v278_1683, v278_1684, v278_1685, v278_1686, v278_1689, v278_1691, v278_1692, v278_1695, v278_1697, v278_1700, v278_1701, v278_1702, v278_1704, v278_1707, v278_1708, v278_1709, v278_1710, v278_1712, v278_1713, v278_1714, v278_1717, v278_1718, v278_1719, n_14, n_8, inB_of, Nat.reduceLT, Prod.mk.injEq, true_and, rB, rBn, rBa, rBb, rBc, rBd, Evk_v, Evk_n, Nat.reduceAdd, Nat.reduceLeDiff, Nat.le_refl, Nat.zero_le, cz_0, cz_1, cI_1, cO_1, cz_2, cI_2, cO_2, cL_2, cD_2, cz_3, cI_3, cO_3, cL_3, cD_3, cz_4, cI_4, cO_4, cL_4, cD_4, cz_5, cI_5, cO_5, cL_5, cD_5, cz_6, cI_6, cO_6, cL_6, cD_6, cz_7, cI_7, cO_7, cL_7, cD_7, cz_8, cI_8, cO_8, cL_8, cD_8, List.mem_cons, or_true, true_or, and_self, sI_S, sL_S, sR_S, sD_S, gb_S, sI_R, sL_R, sD_R, gb_R, sI_L, sR_I, sR_L, sL_I, sD_I, sD_L, gb_I, gb_L, q1, q2, q3, q4, b1, b2, b3, b4, t1, t2, t3, t4, y_S1 hL, y_S20 hL, y_S40 hL, y_V40 hL, s20, s40, i40, e1, e2, y_S20 hL2, y_S30 hL2, m140 hL2, if_pos e3, j_01, n_z0, if_pos z, if_pos e6]
  · simp only [v278_1630, v278_1631, v278_1632, v278_1634, v278_1635, v278_1636, v278_1637, v278_1638, v278_1640, v278_1641, v278_1642, v278_1643, v278_1644, v278_1646, v278_1647, v278_1648, v278_1649, v278_1650, v278_1652, v278_1653, v278_1654, v278_1655, v278_1656, v278_1659, v278_1661, v278_1662, v278_1663, v278_1665, v278_1666, v278_1667, v278_1668, v278_1669, v278_1671, v278_1672, v278_1673, v278_1674, v278_1675, v278_1677, v278_1678, v278_1679, v278_1680, v278_1681, v278_1683, v278_1684, v278_1685, v278_1686, v278_1689, v278_1691, v278_1692, v278_1695, v278_1697, v278_1700, v278_1701, v278_1702, v278_1704, v278_1707, v278_1708, v278_1709, v278_1710, v278_1712, v278_1713, v278_1714, v278_1717, v278_1718, v278_1719, n_14, n_8, inB_of, Nat.reduceLT, Prod.mk.injEq, true_and, rB, rBn, rBa, rBb, rBc, rBd, Evk_v, Evk_n, Nat.reduceAdd, Nat.reduceLeDiff, Nat.le_refl, Nat.zero_le, cz_0, cz_1, cI_1, cO_1, cz_2, cI_2, cO_2, cL_2, cD_2, cz_3, cI_3, cO_3, cL_3, cD_3, cz_4, cI_4, cO_4, cL_4, cD_4, cz_5, cI_5, cO_5, cL_5, cD_5, cz_6, cI_6, cO_6, cL_6, cD_6, cz_7, cI_7, cO_7, cL_7, cD_7, cz_8, cI_8, cO_8, cL_8, cD_8, List.mem_cons, or_true, true_or, and_self, sI_S, sL_S, sR_S, sD_S, gb_S, sI_R, sL_R, sD_R, gb_R, sI_L, sR_I, sR_L, sL_I, sD_I, sD_L, gb_I, gb_L, q1, q2, q3, q4, b1, b2, b3, b4, t1, t2, t3, t4, y_S1 hL, y_S20 hL, y_S40 hL, y_V40 hL, s20, s40, i40, e1, e2, y_S20 hL2, y_S30 hL2, m140 hL2, if_pos e3, j_01, n_z0, if_neg z]
theorem L21 (hI : Inv L xs h) (hc : 5 * c + 5 ≤ L) (hl : L ≤ 2560) {a6 a7 a8 : Option MV} : LG L xs d c h (Ev (d + 21) 278 1722 [some (vR (40, 0, 0)), some (vR (1, 0, 0)), some (vR (20, 0, 0)), some (vR (30, 0, 0)), some (vR (31, 0, 0)), some (vI (iN (5 * c))), a6, a7, a8] [] h) := by
  have q0 : (iN (5 * c)).toNatClampNeg = 5 * c := n_i (by omega)
  have q1 : iN (5 * c) + 1 = iN (5 * c + 1) := iN_add _ 1
  have q2 : iN (5 * c) + 2 = iN (5 * c + 2) := iN_add _ 2
  have q3 : iN (5 * c) + 3 = iN (5 * c + 3) := iN_add _ 3
  have q4 : iN (5 * c) + 4 = iN (5 * c + 4) := iN_add _ 4
  have b1 : inB (iN (5 * c + 1)) L := inB_of (by omega) (by omega)
  have b2 : inB (iN (5 * c + 2)) L := inB_of (by omega) (by omega)
  have b3 : inB (iN (5 * c + 3)) L := inB_of (by omega) (by omega)
  have b4 : inB (iN (5 * c + 4)) L := inB_of (by omega) (by omega)
  have t1 : (iN (5 * c + 1)).toNatClampNeg = 5 * c + 1 := n_i (by omega)
  have t2 : (iN (5 * c + 2)).toNatClampNeg = 5 * c + 2 := n_i (by omega)
  have t3 : (iN (5 * c + 3)).toNatClampNeg = 5 * c + 3 := n_i (by omega)
  have t4 : (iN (5 * c + 4)).toNatClampNeg = 5 * c + 4 := n_i (by omega)
  obtain ⟨hL, P, H, X, ci, mi, wi⟩ := hI
  obtain ⟨k, b, h1, h2, e1, e2, e3, e4, i2, n1, n2, n3⟩ := c21 (d := d) hL ci mi wi (x := xs (5 * c + 1))
  obtain ⟨s20, s40, i40⟩ := sc_S (Ev_S e1) hL
  have hL2 := i2.1
  refine ⟨some (vI k), some (vI b), a8, h2, ?_, i2, n1, n2, n3⟩
  by_cases z : k = 0
  · have e6 : lg_cmp (gL h2 (30, 0, 0) 0) b.toInt64 = 0 := by rw [e4 z]; exact lg_self
    simp only [v278_1722, v278_1723, v278_1724, v278_1726, v278_1727, v278_1728, v278_1729, v278_1730, v278_1733, v278_1735, v278_1736, v278_1737, v278_1739, v278_1740, v278_1741, v278_1742, v278_1745, v278_1747, v278_1748, v278_1751, v278_1753, v278_1756, v278_1757, v278_1758, v278_1760, v278_1763, v278_1764, v278_1765, v278_1766, v278_1768, v278_1769, v278_1770, v278_1773, v278_1774, v278_1775, n_14, n_8, inB_of, Nat.reduceLT, Prod.mk.injEq, true_and, rB, rBn, rBa, rBb, rBc, rBd, Evk_v, Evk_n, Nat.reduceAdd, Nat.reduceLeDiff, Nat.le_refl, Nat.zero_le, cz_0, cz_1, cI_1, cO_1, cz_2, cI_2, cO_2, cL_2, cD_2, cz_3, cI_3, cO_3, cL_3, cD_3, cz_4, cI_4, cO_4, cL_4, cD_4, cz_5, cI_5, cO_5, cL_5, cD_5, cz_6, cI_6, cO_6, cL_6, cD_6, cz_7, cI_7, cO_7, cL_7, cD_7, cz_8, cI_8, cO_8, cL_8, cD_8, List.mem_cons, or_true, true_or, and_self, sI_S, sL_S, sR_S, sD_S, gb_S, sI_R, sL_R, sD_R, gb_R, sI_L, sR_I, sR_L, sL_I, sD_I, sD_L, gb_I, gb_L, q1, q2, q3, q4, b1, b2, b3, b4, t1, t2, t3, t4, y_S1 hL, y_S20 hL, y_S40 hL, y_V40 hL, s20, s40, i40, e1, e2, y_S20 hL2, y_S30 hL2, m140 hL2, if_pos e3, j_01, n_z0, if_pos z, if_pos e6]
  · simp only [v278_1722, v278_1723, v278_1724, v278_1726, v278_1727, v278_1728, v278_1729, v278_1730, v278_1733, v278_1735, v278_1736, v278_1737, v278_1739, v278_1740, v278_1741, v278_1742, v278_1745, v278_1747, v278_1748, v278_1751, v278_1753, v278_1756, v278_1757, v278_1758, v278_1760, v278_1763, v278_1764, v278_1765, v278_1766, v278_1768, v278_1769, v278_1770, v278_1773, v278_1774, v278_1775, n_14, n_8, inB_of, Nat.reduceLT, Prod.mk.injEq, true_and, rB, rBn, rBa, rBb, rBc, rBd, Evk_v, Evk_n, Nat.reduceAdd, Nat.reduceLeDiff, Nat.le_refl, Nat.zero_le, cz_0, cz_1, cI_1, cO_1, cz_2, cI_2, cO_2, cL_2, cD_2, cz_3, cI_3, cO_3, cL_3, cD_3, cz_4, cI_4, cO_4, cL_4, cD_4, cz_5, cI_5, cO_5, cL_5, cD_5, cz_6, cI_6, cO_6, cL_6, cD_6, cz_7, cI_7, cO_7, cL_7, cD_7, cz_8, cI_8, cO_8, cL_8, cD_8, List.mem_cons, or_true, true_or, and_self, sI_S, sL_S, sR_S, sD_S, gb_S, sI_R, sL_R, sD_R, gb_R, sI_L, sR_I, sR_L, sL_I, sD_I, sD_L, gb_I, gb_L, q1, q2, q3, q4, b1, b2, b3, b4, t1, t2, t3, t4, y_S1 hL, y_S20 hL, y_S40 hL, y_V40 hL, s20, s40, i40, e1, e2, y_S20 hL2, y_S30 hL2, m140 hL2, if_pos e3, j_01, n_z0, if_neg z]
theorem L22 (hI : Inv L xs h) (hc : 5 * c + 5 ≤ L) (hl : L ≤ 2560) {a6 a7 a8 : Option MV} : LG L xs d c h (Ev (d + 21) 278 1778 [some (vR (40, 0, 0)), some (vR (1, 0, 0)), some (vR (20, 0, 0)), some (vR (30, 0, 0)), some (vR (31, 0, 0)), some (vI (iN (5 * c))), a6, a7, a8] [] h) := by
  have q0 : (iN (5 * c)).toNatClampNeg = 5 * c := n_i (by omega)
  have q1 : iN (5 * c) + 1 = iN (5 * c + 1) := iN_add _ 1
  have q2 : iN (5 * c) + 2 = iN (5 * c + 2) := iN_add _ 2
  have q3 : iN (5 * c) + 3 = iN (5 * c + 3) := iN_add _ 3
  have q4 : iN (5 * c) + 4 = iN (5 * c + 4) := iN_add _ 4
  have b1 : inB (iN (5 * c + 1)) L := inB_of (by omega) (by omega)
  have b2 : inB (iN (5 * c + 2)) L := inB_of (by omega) (by omega)
  have b3 : inB (iN (5 * c + 3)) L := inB_of (by omega) (by omega)
  have b4 : inB (iN (5 * c + 4)) L := inB_of (by omega) (by omega)
  have t1 : (iN (5 * c + 1)).toNatClampNeg = 5 * c + 1 := n_i (by omega)
  have t2 : (iN (5 * c + 2)).toNatClampNeg = 5 * c + 2 := n_i (by omega)
  have t3 : (iN (5 * c + 3)).toNatClampNeg = 5 * c + 3 := n_i (by omega)
  have t4 : (iN (5 * c + 4)).toNatClampNeg = 5 * c + 4 := n_i (by omega)
  obtain ⟨hL, P, H, X, ci, mi, wi⟩ := hI
  obtain ⟨k, b, h1, h2, e1, e2, e3, e4, i2, n1, n2, n3⟩ := c22 (d := d) hL ci mi wi (x := xs (5 * c + 1)) (y := xs (5 * c + 2))
  obtain ⟨s20, s40, i40⟩ := sc_S (Ev_S e1) hL
  have hL2 := i2.1
  refine ⟨some (vI k), some (vI b), a8, h2, ?_, i2, n1, n2, n3⟩
  by_cases z : k = 0
  · have e6 : lg_cmp (gL h2 (30, 0, 0) 0) b.toInt64 = 0 := by rw [e4 z]; exact lg_self
    simp only [v278_1778, v278_1779, v278_1780, v278_1782, v278_1783, v278_1784, v278_1785, v278_1786, v278_1788, v278_1789, v278_1790, v278_1791, v278_1792, v278_1795, v278_1797, v278_1798, v278_1799, v278_1801, v278_1802, v278_1803, v278_1804, v278_1805, v278_1807, v278_1808, v278_1809, v278_1810, v278_1813, v278_1815, v278_1816, v278_1819, v278_1821, v278_1824, v278_1825, v278_1826, v278_1828, v278_1831, v278_1832, v278_1833, v278_1834, v278_1836, v278_1837, v278_1838, v278_1841, v278_1842, v278_1843, n_14, n_8, inB_of, Nat.reduceLT, Prod.mk.injEq, true_and, rB, rBn, rBa, rBb, rBc, rBd, Evk_v, Evk_n, Nat.reduceAdd, Nat.reduceLeDiff, Nat.le_refl, Nat.zero_le, cz_0, cz_1, cI_1, cO_1, cz_2, cI_2, cO_2, cL_2, cD_2, cz_3, cI_3, cO_3, cL_3, cD_3, cz_4, cI_4, cO_4, cL_4, cD_4, cz_5, cI_5, cO_5, cL_5, cD_5, cz_6, cI_6, cO_6, cL_6, cD_6, cz_7, cI_7, cO_7, cL_7, cD_7, cz_8, cI_8, cO_8, cL_8, cD_8, List.mem_cons, or_true, true_or, and_self, sI_S, sL_S, sR_S, sD_S, gb_S, sI_R, sL_R, sD_R, gb_R, sI_L, sR_I, sR_L, sL_I, sD_I, sD_L, gb_I, gb_L, q1, q2, q3, q4, b1, b2, b3, b4, t1, t2, t3, t4, y_S1 hL, y_S20 hL, y_S40 hL, y_V40 hL, s20, s40, i40, e1, e2, y_S20 hL2, y_S30 hL2, m140 hL2, if_pos e3, j_01, n_z0, if_pos z, if_pos e6]
  · simp only [v278_1778, v278_1779, v278_1780, v278_1782, v278_1783, v278_1784, v278_1785, v278_1786, v278_1788, v278_1789, v278_1790, v278_1791, v278_1792, v278_1795, v278_1797, v278_1798, v278_1799, v278_1801, v278_1802, v278_1803, v278_1804, v278_1805, v278_1807, v278_1808, v278_1809, v278_1810, v278_1813, v278_1815, v278_1816, v278_1819, v278_1821, v278_1824, v278_1825, v278_1826, v278_1828, v278_1831, v278_1832, v278_1833, v278_1834, v278_1836, v278_1837, v278_1838, v278_1841, v278_1842, v278_1843, n_14, n_8, inB_of, Nat.reduceLT, Prod.mk.injEq, true_and, rB, rBn, rBa, rBb, rBc, rBd, Evk_v, Evk_n, Nat.reduceAdd, Nat.reduceLeDiff, Nat.le_refl, Nat.zero_le, cz_0, cz_1, cI_1, cO_1, cz_2, cI_2, cO_2, cL_2, cD_2, cz_3, cI_3, cO_3, cL_3, cD_3, cz_4, cI_4, cO_4, cL_4, cD_4, cz_5, cI_5, cO_5, cL_5, cD_5, cz_6, cI_6, cO_6, cL_6, cD_6, cz_7, cI_7, cO_7, cL_7, cD_7, cz_8, cI_8, cO_8, cL_8, cD_8, List.mem_cons, or_true, true_or, and_self, sI_S, sL_S, sR_S, sD_S, gb_S, sI_R, sL_R, sD_R, gb_R, sI_L, sR_I, sR_L, sL_I, sD_I, sD_L, gb_I, gb_L, q1, q2, q3, q4, b1, b2, b3, b4, t1, t2, t3, t4, y_S1 hL, y_S20 hL, y_S40 hL, y_V40 hL, s20, s40, i40, e1, e2, y_S20 hL2, y_S30 hL2, m140 hL2, if_pos e3, j_01, n_z0, if_neg z]
theorem L23 (hI : Inv L xs h) (hc : 5 * c + 5 ≤ L) (hl : L ≤ 2560) {a6 a7 a8 : Option MV} : LG L xs d c h (Ev (d + 21) 278 1846 [some (vR (40, 0, 0)), some (vR (1, 0, 0)), some (vR (20, 0, 0)), some (vR (30, 0, 0)), some (vR (31, 0, 0)), some (vI (iN (5 * c))), a6, a7, a8] [] h) := by
  have q0 : (iN (5 * c)).toNatClampNeg = 5 * c := n_i (by omega)
  have q1 : iN (5 * c) + 1 = iN (5 * c + 1) := iN_add _ 1
  have q2 : iN (5 * c) + 2 = iN (5 * c + 2) := iN_add _ 2
  have q3 : iN (5 * c) + 3 = iN (5 * c + 3) := iN_add _ 3
  have q4 : iN (5 * c) + 4 = iN (5 * c + 4) := iN_add _ 4
  have b1 : inB (iN (5 * c + 1)) L := inB_of (by omega) (by omega)
  have b2 : inB (iN (5 * c + 2)) L := inB_of (by omega) (by omega)
  have b3 : inB (iN (5 * c + 3)) L := inB_of (by omega) (by omega)
  have b4 : inB (iN (5 * c + 4)) L := inB_of (by omega) (by omega)
  have t1 : (iN (5 * c + 1)).toNatClampNeg = 5 * c + 1 := n_i (by omega)
  have t2 : (iN (5 * c + 2)).toNatClampNeg = 5 * c + 2 := n_i (by omega)
  have t3 : (iN (5 * c + 3)).toNatClampNeg = 5 * c + 3 := n_i (by omega)
  have t4 : (iN (5 * c + 4)).toNatClampNeg = 5 * c + 4 := n_i (by omega)
  obtain ⟨hL, P, H, X, ci, mi, wi⟩ := hI
  obtain ⟨k, b, h1, h2, e1, e2, e3, e4, i2, n1, n2, n3⟩ := c23 (d := d) hL ci mi wi (x := xs (5 * c + 1))
  obtain ⟨s20, s40, i40⟩ := sc_S (Ev_S e1) hL
  have hL2 := i2.1
  refine ⟨some (vI k), some (vI b), a8, h2, ?_, i2, n1, n2, n3⟩
  by_cases z : k = 0
  · have e6 : lg_cmp (gL h2 (30, 0, 0) 0) b.toInt64 = 0 := by rw [e4 z]; exact lg_self
    simp only [v278_1846, v278_1847, v278_1848, v278_1850, v278_1851, v278_1852, v278_1853, v278_1854, v278_1857, v278_1859, v278_1860, v278_1861, v278_1863, v278_1864, v278_1865, v278_1866, v278_1869, v278_1871, v278_1872, v278_1875, v278_1877, v278_1880, v278_1881, v278_1882, v278_1884, v278_1887, v278_1888, v278_1889, v278_1890, v278_1892, v278_1893, v278_1894, v278_1897, v278_1898, v278_1899, n_14, n_8, inB_of, Nat.reduceLT, Prod.mk.injEq, true_and, rB, rBn, rBa, rBb, rBc, rBd, Evk_v, Evk_n, Nat.reduceAdd, Nat.reduceLeDiff, Nat.le_refl, Nat.zero_le, cz_0, cz_1, cI_1, cO_1, cz_2, cI_2, cO_2, cL_2, cD_2, cz_3, cI_3, cO_3, cL_3, cD_3, cz_4, cI_4, cO_4, cL_4, cD_4, cz_5, cI_5, cO_5, cL_5, cD_5, cz_6, cI_6, cO_6, cL_6, cD_6, cz_7, cI_7, cO_7, cL_7, cD_7, cz_8, cI_8, cO_8, cL_8, cD_8, List.mem_cons, or_true, true_or, and_self, sI_S, sL_S, sR_S, sD_S, gb_S, sI_R, sL_R, sD_R, gb_R, sI_L, sR_I, sR_L, sL_I, sD_I, sD_L, gb_I, gb_L, q1, q2, q3, q4, b1, b2, b3, b4, t1, t2, t3, t4, y_S1 hL, y_S20 hL, y_S40 hL, y_V40 hL, s20, s40, i40, e1, e2, y_S20 hL2, y_S30 hL2, m140 hL2, if_pos e3, j_01, n_z0, if_pos z, if_pos e6]
  · simp only [v278_1846, v278_1847, v278_1848, v278_1850, v278_1851, v278_1852, v278_1853, v278_1854, v278_1857, v278_1859, v278_1860, v278_1861, v278_1863, v278_1864, v278_1865, v278_1866, v278_1869, v278_1871, v278_1872, v278_1875, v278_1877, v278_1880, v278_1881, v278_1882, v278_1884, v278_1887, v278_1888, v278_1889, v278_1890, v278_1892, v278_1893, v278_1894, v278_1897, v278_1898, v278_1899, n_14, n_8, inB_of, Nat.reduceLT, Prod.mk.injEq, true_and, rB, rBn, rBa, rBb, rBc, rBd, Evk_v, Evk_n, Nat.reduceAdd, Nat.reduceLeDiff, Nat.le_refl, Nat.zero_le, cz_0, cz_1, cI_1, cO_1, cz_2, cI_2, cO_2, cL_2, cD_2, cz_3, cI_3, cO_3, cL_3, cD_3, cz_4, cI_4, cO_4, cL_4, cD_4, cz_5, cI_5, cO_5, cL_5, cD_5, cz_6, cI_6, cO_6, cL_6, cD_6, cz_7, cI_7, cO_7, cL_7, cD_7, cz_8, cI_8, cO_8, cL_8, cD_8, List.mem_cons, or_true, true_or, and_self, sI_S, sL_S, sR_S, sD_S, gb_S, sI_R, sL_R, sD_R, gb_R, sI_L, sR_I, sR_L, sL_I, sD_I, sD_L, gb_I, gb_L, q1, q2, q3, q4, b1, b2, b3, b4, t1, t2, t3, t4, y_S1 hL, y_S20 hL, y_S40 hL, y_V40 hL, s20, s40, i40, e1, e2, y_S20 hL2, y_S30 hL2, m140 hL2, if_pos e3, j_01, n_z0, if_neg z]
theorem L24 (hI : Inv L xs h) (hc : 5 * c + 5 ≤ L) (hl : L ≤ 2560) {a6 a7 a8 : Option MV} : LG L xs d c h (Ev (d + 21) 278 1902 [some (vR (40, 0, 0)), some (vR (1, 0, 0)), some (vR (20, 0, 0)), some (vR (30, 0, 0)), some (vR (31, 0, 0)), some (vI (iN (5 * c))), a6, a7, a8] [] h) := by
  have q0 : (iN (5 * c)).toNatClampNeg = 5 * c := n_i (by omega)
  have q1 : iN (5 * c) + 1 = iN (5 * c + 1) := iN_add _ 1
  have q2 : iN (5 * c) + 2 = iN (5 * c + 2) := iN_add _ 2
  have q3 : iN (5 * c) + 3 = iN (5 * c + 3) := iN_add _ 3
  have q4 : iN (5 * c) + 4 = iN (5 * c + 4) := iN_add _ 4
  have b1 : inB (iN (5 * c + 1)) L := inB_of (by omega) (by omega)
  have b2 : inB (iN (5 * c + 2)) L := inB_of (by omega) (by omega)
  have b3 : inB (iN (5 * c + 3)) L := inB_of (by omega) (by omega)
  have b4 : inB (iN (5 * c + 4)) L := inB_of (by omega) (by omega)
  have t1 : (iN (5 * c + 1)).toNatClampNeg = 5 * c + 1 := n_i (by omega)
  have t2 : (iN (5 * c + 2)).toNatClampNeg = 5 * c + 2 := n_i (by omega)
  have t3 : (iN (5 * c + 3)).toNatClampNeg = 5 * c + 3 := n_i (by omega)
  have t4 : (iN (5 * c + 4)).toNatClampNeg = 5 * c + 4 := n_i (by omega)
  obtain ⟨hL, P, H, X, ci, mi, wi⟩ := hI
  obtain ⟨k, b, h1, h2, e1, e2, e3, e4, i2, n1, n2, n3⟩ := c24 (d := d) hL ci mi wi
  obtain ⟨s20, s40, i40⟩ := sc_S (Ev_S e1) hL
  have hL2 := i2.1
  refine ⟨some (vI k), some (vI b), a8, h2, ?_, i2, n1, n2, n3⟩
  by_cases z : k = 0
  · have e6 : lg_cmp (gL h2 (30, 0, 0) 0) b.toInt64 = 0 := by rw [e4 z]; exact lg_self
    simp only [v278_1902, v278_1903, v278_1904, v278_1907, v278_1909, v278_1910, v278_1913, v278_1915, v278_1916, v278_1919, v278_1921, v278_1924, v278_1925, v278_1926, v278_1928, v278_1931, v278_1932, v278_1933, v278_1934, v278_1936, v278_1937, v278_1938, v278_1941, v278_1942, v278_1943, n_14, n_8, inB_of, Nat.reduceLT, Prod.mk.injEq, true_and, rB, rBn, rBa, rBb, rBc, rBd, Evk_v, Evk_n, Nat.reduceAdd, Nat.reduceLeDiff, Nat.le_refl, Nat.zero_le, cz_0, cz_1, cI_1, cO_1, cz_2, cI_2, cO_2, cL_2, cD_2, cz_3, cI_3, cO_3, cL_3, cD_3, cz_4, cI_4, cO_4, cL_4, cD_4, cz_5, cI_5, cO_5, cL_5, cD_5, cz_6, cI_6, cO_6, cL_6, cD_6, cz_7, cI_7, cO_7, cL_7, cD_7, cz_8, cI_8, cO_8, cL_8, cD_8, List.mem_cons, or_true, true_or, and_self, sI_S, sL_S, sR_S, sD_S, gb_S, sI_R, sL_R, sD_R, gb_R, sI_L, sR_I, sR_L, sL_I, sD_I, sD_L, gb_I, gb_L, q1, q2, q3, q4, b1, b2, b3, b4, t1, t2, t3, t4, y_S1 hL, y_S20 hL, y_S40 hL, y_V40 hL, s20, s40, i40, e1, e2, y_S20 hL2, y_S30 hL2, m140 hL2, if_pos e3, j_01, n_z0, if_pos z, if_pos e6]
  · simp only [v278_1902, v278_1903, v278_1904, v278_1907, v278_1909, v278_1910, v278_1913, v278_1915, v278_1916, v278_1919, v278_1921, v278_1924, v278_1925, v278_1926, v278_1928, v278_1931, v278_1932, v278_1933, v278_1934, v278_1936, v278_1937, v278_1938, v278_1941, v278_1942, v278_1943, n_14, n_8, inB_of, Nat.reduceLT, Prod.mk.injEq, true_and, rB, rBn, rBa, rBb, rBc, rBd, Evk_v, Evk_n, Nat.reduceAdd, Nat.reduceLeDiff, Nat.le_refl, Nat.zero_le, cz_0, cz_1, cI_1, cO_1, cz_2, cI_2, cO_2, cL_2, cD_2, cz_3, cI_3, cO_3, cL_3, cD_3, cz_4, cI_4, cO_4, cL_4, cD_4, cz_5, cI_5, cO_5, cL_5, cD_5, cz_6, cI_6, cO_6, cL_6, cD_6, cz_7, cI_7, cO_7, cL_7, cD_7, cz_8, cI_8, cO_8, cL_8, cD_8, List.mem_cons, or_true, true_or, and_self, sI_S, sL_S, sR_S, sD_S, gb_S, sI_R, sL_R, sD_R, gb_R, sI_L, sR_I, sR_L, sL_I, sD_I, sD_L, gb_I, gb_L, q1, q2, q3, q4, b1, b2, b3, b4, t1, t2, t3, t4, y_S1 hL, y_S20 hL, y_S40 hL, y_V40 hL, s20, s40, i40, e1, e2, y_S20 hL2, y_S30 hL2, m140 hL2, if_pos e3, j_01, n_z0, if_neg z]
theorem L25 (hI : Inv L xs h) (hc : 5 * c + 5 ≤ L) (hl : L ≤ 2560) {a6 a7 a8 : Option MV} : LG L xs d c h (Ev (d + 21) 278 1946 [some (vR (40, 0, 0)), some (vR (1, 0, 0)), some (vR (20, 0, 0)), some (vR (30, 0, 0)), some (vR (31, 0, 0)), some (vI (iN (5 * c))), a6, a7, a8] [] h) := by
  have q0 : (iN (5 * c)).toNatClampNeg = 5 * c := n_i (by omega)
  have q1 : iN (5 * c) + 1 = iN (5 * c + 1) := iN_add _ 1
  have q2 : iN (5 * c) + 2 = iN (5 * c + 2) := iN_add _ 2
  have q3 : iN (5 * c) + 3 = iN (5 * c + 3) := iN_add _ 3
  have q4 : iN (5 * c) + 4 = iN (5 * c + 4) := iN_add _ 4
  have b1 : inB (iN (5 * c + 1)) L := inB_of (by omega) (by omega)
  have b2 : inB (iN (5 * c + 2)) L := inB_of (by omega) (by omega)
  have b3 : inB (iN (5 * c + 3)) L := inB_of (by omega) (by omega)
  have b4 : inB (iN (5 * c + 4)) L := inB_of (by omega) (by omega)
  have t1 : (iN (5 * c + 1)).toNatClampNeg = 5 * c + 1 := n_i (by omega)
  have t2 : (iN (5 * c + 2)).toNatClampNeg = 5 * c + 2 := n_i (by omega)
  have t3 : (iN (5 * c + 3)).toNatClampNeg = 5 * c + 3 := n_i (by omega)
  have t4 : (iN (5 * c + 4)).toNatClampNeg = 5 * c + 4 := n_i (by omega)
  obtain ⟨hL, P, H, X, ci, mi, wi⟩ := hI
  obtain ⟨k, b, h1, h2, e1, e2, e3, e4, i2, n1, n2, n3⟩ := c25 (d := d) hL ci mi wi (x := xs (5 * c + 1)) (y := xs (5 * c + 2)) (z := xs (5 * c + 3))
  obtain ⟨s20, s40, i40⟩ := sc_S (Ev_S e1) hL
  have hL2 := i2.1
  refine ⟨some (vI k), some (vI b), a8, h2, ?_, i2, n1, n2, n3⟩
  by_cases z : k = 0
  · have e6 : lg_cmp (gL h2 (30, 0, 0) 0) b.toInt64 = 0 := by rw [e4 z]; exact lg_self
    simp only [v278_1946, v278_1947, v278_1948, v278_1950, v278_1951, v278_1952, v278_1953, v278_1954, v278_1956, v278_1957, v278_1958, v278_1959, v278_1960, v278_1962, v278_1963, v278_1964, v278_1965, v278_1966, v278_1969, v278_1971, v278_1972, v278_1973, v278_1975, v278_1976, v278_1977, v278_1978, v278_1979, v278_1981, v278_1982, v278_1983, v278_1984, v278_1985, v278_1987, v278_1988, v278_1989, v278_1990, v278_1993, v278_1995, v278_1996, v278_1999, v278_2001, v278_2004, v278_2005, v278_2006, v278_2008, v278_2011, v278_2012, v278_2013, v278_2014, v278_2016, v278_2017, v278_2018, v278_2021, v278_2022, v278_2023, n_14, n_8, inB_of, Nat.reduceLT, Prod.mk.injEq, true_and, rB, rBn, rBa, rBb, rBc, rBd, Evk_v, Evk_n, Nat.reduceAdd, Nat.reduceLeDiff, Nat.le_refl, Nat.zero_le, cz_0, cz_1, cI_1, cO_1, cz_2, cI_2, cO_2, cL_2, cD_2, cz_3, cI_3, cO_3, cL_3, cD_3, cz_4, cI_4, cO_4, cL_4, cD_4, cz_5, cI_5, cO_5, cL_5, cD_5, cz_6, cI_6, cO_6, cL_6, cD_6, cz_7, cI_7, cO_7, cL_7, cD_7, cz_8, cI_8, cO_8, cL_8, cD_8, List.mem_cons, or_true, true_or, and_self, sI_S, sL_S, sR_S, sD_S, gb_S, sI_R, sL_R, sD_R, gb_R, sI_L, sR_I, sR_L, sL_I, sD_I, sD_L, gb_I, gb_L, q1, q2, q3, q4, b1, b2, b3, b4, t1, t2, t3, t4, y_S1 hL, y_S20 hL, y_S40 hL, y_V40 hL, s20, s40, i40, e1, e2, y_S20 hL2, y_S30 hL2, m140 hL2, if_pos e3, j_01, n_z0, if_pos z, if_pos e6]
  · simp only [v278_1946, v278_1947, v278_1948, v278_1950, v278_1951, v278_1952, v278_1953, v278_1954, v278_1956, v278_1957, v278_1958, v278_1959, v278_1960, v278_1962, v278_1963, v278_1964, v278_1965, v278_1966, v278_1969, v278_1971, v278_1972, v278_1973, v278_1975, v278_1976, v278_1977, v278_1978, v278_1979, v278_1981, v278_1982, v278_1983, v278_1984, v278_1985, v278_1987, v278_1988, v278_1989, v278_1990, v278_1993, v278_1995, v278_1996, v278_1999, v278_2001, v278_2004, v278_2005, v278_2006, v278_2008, v278_2011, v278_2012, v278_2013, v278_2014, v278_2016, v278_2017, v278_2018, v278_2021, v278_2022, v278_2023, n_14, n_8, inB_of, Nat.reduceLT, Prod.mk.injEq, true_and, rB, rBn, rBa, rBb, rBc, rBd, Evk_v, Evk_n, Nat.reduceAdd, Nat.reduceLeDiff, Nat.le_refl, Nat.zero_le, cz_0, cz_1, cI_1, cO_1, cz_2, cI_2, cO_2, cL_2, cD_2, cz_3, cI_3, cO_3, cL_3, cD_3, cz_4, cI_4, cO_4, cL_4, cD_4, cz_5, cI_5, cO_5, cL_5, cD_5, cz_6, cI_6, cO_6, cL_6, cD_6, cz_7, cI_7, cO_7, cL_7, cD_7, cz_8, cI_8, cO_8, cL_8, cD_8, List.mem_cons, or_true, true_or, and_self, sI_S, sL_S, sR_S, sD_S, gb_S, sI_R, sL_R, sD_R, gb_R, sI_L, sR_I, sR_L, sL_I, sD_I, sD_L, gb_I, gb_L, q1, q2, q3, q4, b1, b2, b3, b4, t1, t2, t3, t4, y_S1 hL, y_S20 hL, y_S40 hL, y_V40 hL, s20, s40, i40, e1, e2, y_S20 hL2, y_S30 hL2, m140 hL2, if_pos e3, j_01, n_z0, if_neg z]
theorem L26 (hI : Inv L xs h) (hc : 5 * c + 5 ≤ L) (hl : L ≤ 2560) {a6 a7 a8 : Option MV} : LG L xs d c h (Ev (d + 21) 278 2026 [some (vR (40, 0, 0)), some (vR (1, 0, 0)), some (vR (20, 0, 0)), some (vR (30, 0, 0)), some (vR (31, 0, 0)), some (vI (iN (5 * c))), a6, a7, a8] [] h) := by
  have q0 : (iN (5 * c)).toNatClampNeg = 5 * c := n_i (by omega)
  have q1 : iN (5 * c) + 1 = iN (5 * c + 1) := iN_add _ 1
  have q2 : iN (5 * c) + 2 = iN (5 * c + 2) := iN_add _ 2
  have q3 : iN (5 * c) + 3 = iN (5 * c + 3) := iN_add _ 3
  have q4 : iN (5 * c) + 4 = iN (5 * c + 4) := iN_add _ 4
  have b1 : inB (iN (5 * c + 1)) L := inB_of (by omega) (by omega)
  have b2 : inB (iN (5 * c + 2)) L := inB_of (by omega) (by omega)
  have b3 : inB (iN (5 * c + 3)) L := inB_of (by omega) (by omega)
  have b4 : inB (iN (5 * c + 4)) L := inB_of (by omega) (by omega)
  have t1 : (iN (5 * c + 1)).toNatClampNeg = 5 * c + 1 := n_i (by omega)
  have t2 : (iN (5 * c + 2)).toNatClampNeg = 5 * c + 2 := n_i (by omega)
  have t3 : (iN (5 * c + 3)).toNatClampNeg = 5 * c + 3 := n_i (by omega)
  have t4 : (iN (5 * c + 4)).toNatClampNeg = 5 * c + 4 := n_i (by omega)
  obtain ⟨hL, P, H, X, ci, mi, wi⟩ := hI
  obtain ⟨k, b, h1, h2, e1, e2, e3, e4, i2, n1, n2, n3⟩ := c26 (d := d) hL ci mi wi (x := xs (5 * c + 1))
  obtain ⟨s20, s40, i40⟩ := sc_S (Ev_S e1) hL
  have hL2 := i2.1
  refine ⟨some (vI k), some (vI b), a8, h2, ?_, i2, n1, n2, n3⟩
  by_cases z : k = 0
  · have e6 : lg_cmp (gL h2 (30, 0, 0) 0) b.toInt64 = 0 := by rw [e4 z]; exact lg_self
    simp only [v278_2026, v278_2027, v278_2028, v278_2030, v278_2031, v278_2032, v278_2033, v278_2034, v278_2037, v278_2039, v278_2040, v278_2041, v278_2043, v278_2044, v278_2045, v278_2046, v278_2049, v278_2051, v278_2052, v278_2055, v278_2057, v278_2060, v278_2061, v278_2062, v278_2064, v278_2067, v278_2068, v278_2069, v278_2070, v278_2072, v278_2073, v278_2074, v278_2077, v278_2078, v278_2079, n_14, n_8, inB_of, Nat.reduceLT, Prod.mk.injEq, true_and, rB, rBn, rBa, rBb, rBc, rBd, Evk_v, Evk_n, Nat.reduceAdd, Nat.reduceLeDiff, Nat.le_refl, Nat.zero_le, cz_0, cz_1, cI_1, cO_1, cz_2, cI_2, cO_2, cL_2, cD_2, cz_3, cI_3, cO_3, cL_3, cD_3, cz_4, cI_4, cO_4, cL_4, cD_4, cz_5, cI_5, cO_5, cL_5, cD_5, cz_6, cI_6, cO_6, cL_6, cD_6, cz_7, cI_7, cO_7, cL_7, cD_7, cz_8, cI_8, cO_8, cL_8, cD_8, List.mem_cons, or_true, true_or, and_self, sI_S, sL_S, sR_S, sD_S, gb_S, sI_R, sL_R, sD_R, gb_R, sI_L, sR_I, sR_L, sL_I, sD_I, sD_L, gb_I, gb_L, q1, q2, q3, q4, b1, b2, b3, b4, t1, t2, t3, t4, y_S1 hL, y_S20 hL, y_S40 hL, y_V40 hL, s20, s40, i40, e1, e2, y_S20 hL2, y_S30 hL2, m140 hL2, if_pos e3, j_01, n_z0, if_pos z, if_pos e6]
  · simp only [v278_2026, v278_2027, v278_2028, v278_2030, v278_2031, v278_2032, v278_2033, v278_2034, v278_2037, v278_2039, v278_2040, v278_2041, v278_2043, v278_2044, v278_2045, v278_2046, v278_2049, v278_2051, v278_2052, v278_2055, v278_2057, v278_2060, v278_2061, v278_2062, v278_2064, v278_2067, v278_2068, v278_2069, v278_2070, v278_2072, v278_2073, v278_2074, v278_2077, v278_2078, v278_2079, n_14, n_8, inB_of, Nat.reduceLT, Prod.mk.injEq, true_and, rB, rBn, rBa, rBb, rBc, rBd, Evk_v, Evk_n, Nat.reduceAdd, Nat.reduceLeDiff, Nat.le_refl, Nat.zero_le, cz_0, cz_1, cI_1, cO_1, cz_2, cI_2, cO_2, cL_2, cD_2, cz_3, cI_3, cO_3, cL_3, cD_3, cz_4, cI_4, cO_4, cL_4, cD_4, cz_5, cI_5, cO_5, cL_5, cD_5, cz_6, cI_6, cO_6, cL_6, cD_6, cz_7, cI_7, cO_7, cL_7, cD_7, cz_8, cI_8, cO_8, cL_8, cD_8, List.mem_cons, or_true, true_or, and_self, sI_S, sL_S, sR_S, sD_S, gb_S, sI_R, sL_R, sD_R, gb_R, sI_L, sR_I, sR_L, sL_I, sD_I, sD_L, gb_I, gb_L, q1, q2, q3, q4, b1, b2, b3, b4, t1, t2, t3, t4, y_S1 hL, y_S20 hL, y_S40 hL, y_V40 hL, s20, s40, i40, e1, e2, y_S20 hL2, y_S30 hL2, m140 hL2, if_pos e3, j_01, n_z0, if_neg z]
theorem L27 (hI : Inv L xs h) (hc : 5 * c + 5 ≤ L) (hl : L ≤ 2560) {a6 a7 a8 : Option MV} : LG L xs d c h (Ev (d + 21) 278 2082 [some (vR (40, 0, 0)), some (vR (1, 0, 0)), some (vR (20, 0, 0)), some (vR (30, 0, 0)), some (vR (31, 0, 0)), some (vI (iN (5 * c))), a6, a7, a8] [] h) := by
  have q0 : (iN (5 * c)).toNatClampNeg = 5 * c := n_i (by omega)
  have q1 : iN (5 * c) + 1 = iN (5 * c + 1) := iN_add _ 1
  have q2 : iN (5 * c) + 2 = iN (5 * c + 2) := iN_add _ 2
  have q3 : iN (5 * c) + 3 = iN (5 * c + 3) := iN_add _ 3
  have q4 : iN (5 * c) + 4 = iN (5 * c + 4) := iN_add _ 4
  have b1 : inB (iN (5 * c + 1)) L := inB_of (by omega) (by omega)
  have b2 : inB (iN (5 * c + 2)) L := inB_of (by omega) (by omega)
  have b3 : inB (iN (5 * c + 3)) L := inB_of (by omega) (by omega)
  have b4 : inB (iN (5 * c + 4)) L := inB_of (by omega) (by omega)
  have t1 : (iN (5 * c + 1)).toNatClampNeg = 5 * c + 1 := n_i (by omega)
  have t2 : (iN (5 * c + 2)).toNatClampNeg = 5 * c + 2 := n_i (by omega)
  have t3 : (iN (5 * c + 3)).toNatClampNeg = 5 * c + 3 := n_i (by omega)
  have t4 : (iN (5 * c + 4)).toNatClampNeg = 5 * c + 4 := n_i (by omega)
  obtain ⟨hL, P, H, X, ci, mi, wi⟩ := hI
  obtain ⟨k, h1, h2, e1, e2, i2, n1, n2, n3⟩ := c27 (d := d) hL ci mi wi
  obtain ⟨s20, s40, i40⟩ := sc_S (Ev_S e1) hL
  refine ⟨a6, a7, a8, h2, ?_, i2, n1, n2, n3⟩
  simp only [v278_2082, v278_2083, v278_2086, v278_2087, v278_2090, v278_2093, v278_2094, n_14, n_8, inB_of, Nat.reduceLT, Prod.mk.injEq, true_and, rB, rBn, rBa, rBb, rBc, rBd, Evk_v, Evk_n, Nat.reduceAdd, Nat.reduceLeDiff, Nat.le_refl, Nat.zero_le, cz_0, cz_1, cI_1, cO_1, cz_2, cI_2, cO_2, cL_2, cD_2, cz_3, cI_3, cO_3, cL_3, cD_3, cz_4, cI_4, cO_4, cL_4, cD_4, cz_5, cI_5, cO_5, cL_5, cD_5, cz_6, cI_6, cO_6, cL_6, cD_6, cz_7, cI_7, cO_7, cL_7, cD_7, cz_8, cI_8, cO_8, cL_8, cD_8, List.mem_cons, or_true, true_or, and_self, sI_S, sL_S, sR_S, sD_S, gb_S, sI_R, sL_R, sD_R, gb_R, sI_L, sR_I, sR_L, sL_I, sD_I, sD_L, gb_I, gb_L, q1, q2, q3, q4, b1, b2, b3, b4, t1, t2, t3, t4, y_S1 hL, y_S20 hL, y_S40 hL, y_V40 hL, s20, s40, i40, e1, e2, if_true]
theorem L28 (hI : Inv L xs h) (hc : 5 * c + 5 ≤ L) (hl : L ≤ 2560) {a6 a7 a8 : Option MV} : LG L xs d c h (Ev (d + 21) 278 2095 [some (vR (40, 0, 0)), some (vR (1, 0, 0)), some (vR (20, 0, 0)), some (vR (30, 0, 0)), some (vR (31, 0, 0)), some (vI (iN (5 * c))), a6, a7, a8] [] h) := by
  have q0 : (iN (5 * c)).toNatClampNeg = 5 * c := n_i (by omega)
  have q1 : iN (5 * c) + 1 = iN (5 * c + 1) := iN_add _ 1
  have q2 : iN (5 * c) + 2 = iN (5 * c + 2) := iN_add _ 2
  have q3 : iN (5 * c) + 3 = iN (5 * c + 3) := iN_add _ 3
  have q4 : iN (5 * c) + 4 = iN (5 * c + 4) := iN_add _ 4
  have b1 : inB (iN (5 * c + 1)) L := inB_of (by omega) (by omega)
  have b2 : inB (iN (5 * c + 2)) L := inB_of (by omega) (by omega)
  have b3 : inB (iN (5 * c + 3)) L := inB_of (by omega) (by omega)
  have b4 : inB (iN (5 * c + 4)) L := inB_of (by omega) (by omega)
  have t1 : (iN (5 * c + 1)).toNatClampNeg = 5 * c + 1 := n_i (by omega)
  have t2 : (iN (5 * c + 2)).toNatClampNeg = 5 * c + 2 := n_i (by omega)
  have t3 : (iN (5 * c + 3)).toNatClampNeg = 5 * c + 3 := n_i (by omega)
  have t4 : (iN (5 * c + 4)).toNatClampNeg = 5 * c + 4 := n_i (by omega)
  obtain ⟨hL, P, H, X, ci, mi, wi⟩ := hI
  obtain ⟨k, b, h1, h2, e1, e2, e3, e4, i2, n1, n2, n3⟩ := c28 (d := d) hL ci mi wi (x := xs (5 * c + 1))
  obtain ⟨s20, s40, i40⟩ := sc_S (Ev_S e1) hL
  have hL2 := i2.1
  refine ⟨some (vI k), some (vI b), a8, h2, ?_, i2, n1, n2, n3⟩
  by_cases z : k = 0
  · have e6 : lg_cmp (gL h2 (30, 0, 0) 0) b.toInt64 = 0 := by rw [e4 z]; exact lg_self
    simp only [v278_2095, v278_2096, v278_2097, v278_2099, v278_2100, v278_2101, v278_2102, v278_2103, v278_2106, v278_2108, v278_2109, v278_2110, v278_2112, v278_2113, v278_2114, v278_2115, v278_2118, v278_2120, v278_2121, v278_2124, v278_2126, v278_2129, v278_2130, v278_2131, v278_2133, v278_2136, v278_2137, v278_2138, v278_2139, v278_2141, v278_2142, v278_2143, v278_2146, v278_2147, v278_2148, n_14, n_8, inB_of, Nat.reduceLT, Prod.mk.injEq, true_and, rB, rBn, rBa, rBb, rBc, rBd, Evk_v, Evk_n, Nat.reduceAdd, Nat.reduceLeDiff, Nat.le_refl, Nat.zero_le, cz_0, cz_1, cI_1, cO_1, cz_2, cI_2, cO_2, cL_2, cD_2, cz_3, cI_3, cO_3, cL_3, cD_3, cz_4, cI_4, cO_4, cL_4, cD_4, cz_5, cI_5, cO_5, cL_5, cD_5, cz_6, cI_6, cO_6, cL_6, cD_6, cz_7, cI_7, cO_7, cL_7, cD_7, cz_8, cI_8, cO_8, cL_8, cD_8, List.mem_cons, or_true, true_or, and_self, sI_S, sL_S, sR_S, sD_S, gb_S, sI_R, sL_R, sD_R, gb_R, sI_L, sR_I, sR_L, sL_I, sD_I, sD_L, gb_I, gb_L, q1, q2, q3, q4, b1, b2, b3, b4, t1, t2, t3, t4, y_S1 hL, y_S20 hL, y_S40 hL, y_V40 hL, s20, s40, i40, e1, e2, y_S20 hL2, y_S30 hL2, m140 hL2, if_pos e3, j_01, n_z0, if_pos z, if_pos e6]
  · simp only [v278_2095, v278_2096, v278_2097, v278_2099, v278_2100, v278_2101, v278_2102, v278_2103, v278_2106, v278_2108, v278_2109, v278_2110, v278_2112, v278_2113, v278_2114, v278_2115, v278_2118, v278_2120, v278_2121, v278_2124, v278_2126, v278_2129, v278_2130, v278_2131, v278_2133, v278_2136, v278_2137, v278_2138, v278_2139, v278_2141, v278_2142, v278_2143, v278_2146, v278_2147, v278_2148, n_14, n_8, inB_of, Nat.reduceLT, Prod.mk.injEq, true_and, rB, rBn, rBa, rBb, rBc, rBd, Evk_v, Evk_n, Nat.reduceAdd, Nat.reduceLeDiff, Nat.le_refl, Nat.zero_le, cz_0, cz_1, cI_1, cO_1, cz_2, cI_2, cO_2, cL_2, cD_2, cz_3, cI_3, cO_3, cL_3, cD_3, cz_4, cI_4, cO_4, cL_4, cD_4, cz_5, cI_5, cO_5, cL_5, cD_5, cz_6, cI_6, cO_6, cL_6, cD_6, cz_7, cI_7, cO_7, cL_7, cD_7, cz_8, cI_8, cO_8, cL_8, cD_8, List.mem_cons, or_true, true_or, and_self, sI_S, sL_S, sR_S, sD_S, gb_S, sI_R, sL_R, sD_R, gb_R, sI_L, sR_I, sR_L, sL_I, sD_I, sD_L, gb_I, gb_L, q1, q2, q3, q4, b1, b2, b3, b4, t1, t2, t3, t4, y_S1 hL, y_S20 hL, y_S40 hL, y_V40 hL, s20, s40, i40, e1, e2, y_S20 hL2, y_S30 hL2, m140 hL2, if_pos e3, j_01, n_z0, if_neg z]
theorem L29 (hI : Inv L xs h) (hc : 5 * c + 5 ≤ L) (hl : L ≤ 2560) {a6 a7 a8 : Option MV} : LG L xs d c h (Ev (d + 21) 278 2151 [some (vR (40, 0, 0)), some (vR (1, 0, 0)), some (vR (20, 0, 0)), some (vR (30, 0, 0)), some (vR (31, 0, 0)), some (vI (iN (5 * c))), a6, a7, a8] [] h) := by
  have q0 : (iN (5 * c)).toNatClampNeg = 5 * c := n_i (by omega)
  have q1 : iN (5 * c) + 1 = iN (5 * c + 1) := iN_add _ 1
  have q2 : iN (5 * c) + 2 = iN (5 * c + 2) := iN_add _ 2
  have q3 : iN (5 * c) + 3 = iN (5 * c + 3) := iN_add _ 3
  have q4 : iN (5 * c) + 4 = iN (5 * c + 4) := iN_add _ 4
  have b1 : inB (iN (5 * c + 1)) L := inB_of (by omega) (by omega)
  have b2 : inB (iN (5 * c + 2)) L := inB_of (by omega) (by omega)
  have b3 : inB (iN (5 * c + 3)) L := inB_of (by omega) (by omega)
  have b4 : inB (iN (5 * c + 4)) L := inB_of (by omega) (by omega)
  have t1 : (iN (5 * c + 1)).toNatClampNeg = 5 * c + 1 := n_i (by omega)
  have t2 : (iN (5 * c + 2)).toNatClampNeg = 5 * c + 2 := n_i (by omega)
  have t3 : (iN (5 * c + 3)).toNatClampNeg = 5 * c + 3 := n_i (by omega)
  have t4 : (iN (5 * c + 4)).toNatClampNeg = 5 * c + 4 := n_i (by omega)
  obtain ⟨hL, P, H, X, ci, mi, wi⟩ := hI
  obtain ⟨k, b, h1, h2, e1, e2, e3, e4, i2, n1, n2, n3⟩ := c29 (d := d) hL ci mi wi (x := xs (5 * c + 1))
  obtain ⟨s20, s40, i40⟩ := sc_S (Ev_S e1) hL
  have hL2 := i2.1
  refine ⟨some (vI k), some (vI b), a8, h2, ?_, i2, n1, n2, n3⟩
  by_cases z : k = 0
  · have e6 : lg_cmp (gL h2 (30, 0, 0) 0) b.toInt64 = 0 := by rw [e4 z]; exact lg_self
    simp only [v278_2151, v278_2152, v278_2153, v278_2155, v278_2156, v278_2157, v278_2158, v278_2159, v278_2162, v278_2164, v278_2165, v278_2166, v278_2168, v278_2169, v278_2170, v278_2171, v278_2174, v278_2176, v278_2177, v278_2180, v278_2182, v278_2185, v278_2186, v278_2187, v278_2189, v278_2192, v278_2193, v278_2194, v278_2195, v278_2197, v278_2198, v278_2199, v278_2202, v278_2203, v278_2204, n_14, n_8, inB_of, Nat.reduceLT, Prod.mk.injEq, true_and, rB, rBn, rBa, rBb, rBc, rBd, Evk_v, Evk_n, Nat.reduceAdd, Nat.reduceLeDiff, Nat.le_refl, Nat.zero_le, cz_0, cz_1, cI_1, cO_1, cz_2, cI_2, cO_2, cL_2, cD_2, cz_3, cI_3, cO_3, cL_3, cD_3, cz_4, cI_4, cO_4, cL_4, cD_4, cz_5, cI_5, cO_5, cL_5, cD_5, cz_6, cI_6, cO_6, cL_6, cD_6, cz_7, cI_7, cO_7, cL_7, cD_7, cz_8, cI_8, cO_8, cL_8, cD_8, List.mem_cons, or_true, true_or, and_self, sI_S, sL_S, sR_S, sD_S, gb_S, sI_R, sL_R, sD_R, gb_R, sI_L, sR_I, sR_L, sL_I, sD_I, sD_L, gb_I, gb_L, q1, q2, q3, q4, b1, b2, b3, b4, t1, t2, t3, t4, y_S1 hL, y_S20 hL, y_S40 hL, y_V40 hL, s20, s40, i40, e1, e2, y_S20 hL2, y_S30 hL2, m140 hL2, if_pos e3, j_01, n_z0, if_pos z, if_pos e6]
  · simp only [v278_2151, v278_2152, v278_2153, v278_2155, v278_2156, v278_2157, v278_2158, v278_2159, v278_2162, v278_2164, v278_2165, v278_2166, v278_2168, v278_2169, v278_2170, v278_2171, v278_2174, v278_2176, v278_2177, v278_2180, v278_2182, v278_2185, v278_2186, v278_2187, v278_2189, v278_2192, v278_2193, v278_2194, v278_2195, v278_2197, v278_2198, v278_2199, v278_2202, v278_2203, v278_2204, n_14, n_8, inB_of, Nat.reduceLT, Prod.mk.injEq, true_and, rB, rBn, rBa, rBb, rBc, rBd, Evk_v, Evk_n, Nat.reduceAdd, Nat.reduceLeDiff, Nat.le_refl, Nat.zero_le, cz_0, cz_1, cI_1, cO_1, cz_2, cI_2, cO_2, cL_2, cD_2, cz_3, cI_3, cO_3, cL_3, cD_3, cz_4, cI_4, cO_4, cL_4, cD_4, cz_5, cI_5, cO_5, cL_5, cD_5, cz_6, cI_6, cO_6, cL_6, cD_6, cz_7, cI_7, cO_7, cL_7, cD_7, cz_8, cI_8, cO_8, cL_8, cD_8, List.mem_cons, or_true, true_or, and_self, sI_S, sL_S, sR_S, sD_S, gb_S, sI_R, sL_R, sD_R, gb_R, sI_L, sR_I, sR_L, sL_I, sD_I, sD_L, gb_I, gb_L, q1, q2, q3, q4, b1, b2, b3, b4, t1, t2, t3, t4, y_S1 hL, y_S20 hL, y_S40 hL, y_V40 hL, s20, s40, i40, e1, e2, y_S20 hL2, y_S30 hL2, m140 hL2, if_pos e3, j_01, n_z0, if_neg z]
theorem L30 (hI : Inv L xs h) (hc : 5 * c + 5 ≤ L) (hl : L ≤ 2560) {a6 a7 a8 : Option MV} : LG L xs d c h (Ev (d + 21) 278 2207 [some (vR (40, 0, 0)), some (vR (1, 0, 0)), some (vR (20, 0, 0)), some (vR (30, 0, 0)), some (vR (31, 0, 0)), some (vI (iN (5 * c))), a6, a7, a8] [] h) := by
  have q0 : (iN (5 * c)).toNatClampNeg = 5 * c := n_i (by omega)
  have q1 : iN (5 * c) + 1 = iN (5 * c + 1) := iN_add _ 1
  have q2 : iN (5 * c) + 2 = iN (5 * c + 2) := iN_add _ 2
  have q3 : iN (5 * c) + 3 = iN (5 * c + 3) := iN_add _ 3
  have q4 : iN (5 * c) + 4 = iN (5 * c + 4) := iN_add _ 4
  have b1 : inB (iN (5 * c + 1)) L := inB_of (by omega) (by omega)
  have b2 : inB (iN (5 * c + 2)) L := inB_of (by omega) (by omega)
  have b3 : inB (iN (5 * c + 3)) L := inB_of (by omega) (by omega)
  have b4 : inB (iN (5 * c + 4)) L := inB_of (by omega) (by omega)
  have t1 : (iN (5 * c + 1)).toNatClampNeg = 5 * c + 1 := n_i (by omega)
  have t2 : (iN (5 * c + 2)).toNatClampNeg = 5 * c + 2 := n_i (by omega)
  have t3 : (iN (5 * c + 3)).toNatClampNeg = 5 * c + 3 := n_i (by omega)
  have t4 : (iN (5 * c + 4)).toNatClampNeg = 5 * c + 4 := n_i (by omega)
  obtain ⟨hL, P, H, X, ci, mi, wi⟩ := hI
  obtain ⟨k, b, h1, h2, e1, e2, e3, e4, i2, n1, n2, n3⟩ := c30 (d := d) hL ci mi wi (y := xs (5 * c + 1))
  obtain ⟨s20, s40, i40⟩ := sc_S (Ev_S e1) hL
  have hL2 := i2.1
  refine ⟨some (vI k), some (vI b), a8, h2, ?_, i2, n1, n2, n3⟩
  by_cases z : k = 0
  · have e6 : lg_cmp (gL h2 (30, 0, 0) 0) b.toInt64 = 0 := by rw [e4 z]; exact lg_self
    simp only [v278_2207, v278_2208, v278_2209, v278_2211, v278_2212, v278_2213, v278_2214, v278_2215, v278_2218, v278_2220, v278_2221, v278_2222, v278_2224, v278_2225, v278_2226, v278_2227, v278_2230, v278_2232, v278_2233, v278_2236, v278_2238, v278_2241, v278_2242, v278_2243, v278_2245, v278_2248, v278_2249, v278_2250, v278_2251, v278_2253, v278_2254, v278_2255, v278_2258, v278_2259, v278_2260, n_14, n_8, inB_of, Nat.reduceLT, Prod.mk.injEq, true_and, rB, rBn, rBa, rBb, rBc, rBd, Evk_v, Evk_n, Nat.reduceAdd, Nat.reduceLeDiff, Nat.le_refl, Nat.zero_le, cz_0, cz_1, cI_1, cO_1, cz_2, cI_2, cO_2, cL_2, cD_2, cz_3, cI_3, cO_3, cL_3, cD_3, cz_4, cI_4, cO_4, cL_4, cD_4, cz_5, cI_5, cO_5, cL_5, cD_5, cz_6, cI_6, cO_6, cL_6, cD_6, cz_7, cI_7, cO_7, cL_7, cD_7, cz_8, cI_8, cO_8, cL_8, cD_8, List.mem_cons, or_true, true_or, and_self, sI_S, sL_S, sR_S, sD_S, gb_S, sI_R, sL_R, sD_R, gb_R, sI_L, sR_I, sR_L, sL_I, sD_I, sD_L, gb_I, gb_L, q1, q2, q3, q4, b1, b2, b3, b4, t1, t2, t3, t4, y_S1 hL, y_S20 hL, y_S40 hL, y_V40 hL, s20, s40, i40, e1, e2, y_S20 hL2, y_S30 hL2, m140 hL2, if_pos e3, j_01, n_z0, if_pos z, if_pos e6]
  · simp only [v278_2207, v278_2208, v278_2209, v278_2211, v278_2212, v278_2213, v278_2214, v278_2215, v278_2218, v278_2220, v278_2221, v278_2222, v278_2224, v278_2225, v278_2226, v278_2227, v278_2230, v278_2232, v278_2233, v278_2236, v278_2238, v278_2241, v278_2242, v278_2243, v278_2245, v278_2248, v278_2249, v278_2250, v278_2251, v278_2253, v278_2254, v278_2255, v278_2258, v278_2259, v278_2260, n_14, n_8, inB_of, Nat.reduceLT, Prod.mk.injEq, true_and, rB, rBn, rBa, rBb, rBc, rBd, Evk_v, Evk_n, Nat.reduceAdd, Nat.reduceLeDiff, Nat.le_refl, Nat.zero_le, cz_0, cz_1, cI_1, cO_1, cz_2, cI_2, cO_2, cL_2, cD_2, cz_3, cI_3, cO_3, cL_3, cD_3, cz_4, cI_4, cO_4, cL_4, cD_4, cz_5, cI_5, cO_5, cL_5, cD_5, cz_6, cI_6, cO_6, cL_6, cD_6, cz_7, cI_7, cO_7, cL_7, cD_7, cz_8, cI_8, cO_8, cL_8, cD_8, List.mem_cons, or_true, true_or, and_self, sI_S, sL_S, sR_S, sD_S, gb_S, sI_R, sL_R, sD_R, gb_R, sI_L, sR_I, sR_L, sL_I, sD_I, sD_L, gb_I, gb_L, q1, q2, q3, q4, b1, b2, b3, b4, t1, t2, t3, t4, y_S1 hL, y_S20 hL, y_S40 hL, y_V40 hL, s20, s40, i40, e1, e2, y_S20 hL2, y_S30 hL2, m140 hL2, if_pos e3, j_01, n_z0, if_neg z]
end LawC89
