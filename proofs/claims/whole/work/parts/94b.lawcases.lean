/-! The cases of the law, 16 to 32 (by genlaw.py). -/
section LAWC1
variable {p : Program} {l : Launch} {e : Env} {s : State} {m : MethodId} {below : List Frame} {meth : Method} {c : Code} {Θ : cTH} {Q9 : State → Prop} {k n t b L : Nat} {xs : Nat → Int32} {G : GS}
set_option maxHeartbeats 2000000 in
set_option maxRecDepth 20000 in
theorem law_c16 (hx : lCx p l s m meth c b L xs Θ) (hS : Sim G t) (hz : 6 * t + 6 ≤ L) (hroom : k + 15 ≤ 601024 ∧ n + 262 ≤ 7293034) (kk : ∀ (Θ2 : cTH) (G2 : GS), Th Θ Θ2 → Sim G2 (t + 1) → VG p l e room_1 s m #[Value.ref b] below meth c 9 Θ2 Q9 (k + 15) (n + 262) 4427 (lsL Θ2 b (6 * t) none none) [] G2) : VG p l e room_1 s m #[Value.ref b] below meth c 9 Θ Q9 k n 1615 (lsL Θ b (6 * t) none none) [] G := by
  have hC := hx.1
  have hl9 := hx.2.2.2.2
  have hL := hx.2.2.2.1
  have hop := op_removeEntry hS (show t < 2 ^ 20 by omega) (xs (6 * t + 1)) (xs (6 * t + 2))
  refine v_aload_n (i := 1) (q := 1616) hC dL_law_1615 rfl rfl rfl ?_
  refine v_arg (q := 1622) hx 1 (by decide) ⟨dL_law_1616, dL_law_1617, dL_law_1619, dL_law_1620, dL_law_1621⟩ rfl (by omega) ?_
  refine v_arg (q := 1628) hx 2 (by decide) ⟨dL_law_1622, dL_law_1623, dL_law_1625, dL_law_1626, dL_law_1627⟩ rfl (by omega) ?_
  refine v_aload_n (i := 3) (q := 1629) hC dL_law_1628 rfl rfl rfl ?_
  refine v_callSX (q := 1632) (rm := rm_L_removeEntry) hC (w_L_removeEntry hl9 Θ (xs (6 * t + 1)) (xs (6 * t + 2)) G (c_X11_removeEntry hl9 Θ (xs (6 * t + 1)) (xs (6 * t + 2)) G ) hop.v (fun E G1 h => mem1 (hop.2 E G1 h).1)) kh_L_removeEntry ml_RL_254 dL_law_1629 rfl rfl rfl (Nat.le_of_ble_eq_true rfl) ⟨Nat.le_of_ble_eq_true rfl, Nat.le_of_ble_eq_true rfl⟩ ⟨Nat.le_of_ble_eq_true rfl, Nat.le_of_ble_eq_true rfl⟩ hroom (fun v G1 hw => ?_) wQ_no
  obtain ⟨kv, rfl, hA, h2⟩ := hop.out cd1 hw
  have hM := hS.M.agC hA
  dsimp only [Option.toList, List.cons_append, List.nil_append]
  refine v_istore (q := 1634) hC dL_law_1632 rfl (lvc rfl) (Nat.le_of_ble_eq_true rfl) (Nat.le_of_ble_eq_true rfl) rfl ?_
  show VG p l e room_1 s m #[Value.ref b] below meth c 9 Θ Q9 (k + 15) (n + 262) 1634 (lsL Θ b (6 * t) (some (.int kv)) none) [] G1
  refine v_aload_n (i := 2) (q := 1635) hC dL_law_1634 rfl rfl rfl ?_
  refine v_arg (q := 1641) hx 1 (by decide) ⟨dL_law_1635, dL_law_1636, dL_law_1638, dL_law_1639, dL_law_1640⟩ rfl (by omega) ?_
  refine v_arg (q := 1647) hx 2 (by decide) ⟨dL_law_1641, dL_law_1642, dL_law_1644, dL_law_1645, dL_law_1646⟩ rfl (by omega) ?_
  refine v_callV0 (q := 1650) (rm := rm_X12_removeEntry) hC (c_X12_removeEntry hl9 _ (xs (6 * t + 1)) (xs (6 * t + 2)) G1 hM.1) k_X12_removeEntry im_yX12_removeEntry se_yX12_removeEntry ml_RL_256 dL_law_1647 rfl rfl rfl rfl rfl rfl (Nat.le_of_ble_eq_true rfl) ⟨Nat.le_of_ble_eq_true rfl, Nat.le_of_ble_eq_true rfl⟩ ⟨rfl, rfl⟩ hroom (fun v2 G2 h3 => ?_) (fun E G2 h3 => by obtain ⟨y, h4, _⟩ := h2 _ _ h3; cases h4)
  obtain ⟨y, e4, h5, h6, h7⟩ := h2 _ _ h3
  cases e4
  dsimp only [Option.toList, List.cons_append, List.nil_append]
  exact law_tailI hx ⟨⟨dL_law_1650, dL_law_1652, dL_law_1653, dL_law_1656, dL_law_1658, dL_law_1663⟩, dL_law_1665, dL_law_1668, dL_law_1669, dL_law_1670, dL_law_1671, dL_law_1673, dL_law_1674, dL_law_1675, dL_law_1680⟩ (by decide) h5 h6 hroom (kk Θ G2 (Th.refl Θ) h7)
set_option maxHeartbeats 2000000 in
set_option maxRecDepth 20000 in
theorem law_c17 (hx : lCx p l s m meth c b L xs Θ) (hS : Sim G t) (hz : 6 * t + 6 ≤ L) (hroom : k + 15 ≤ 601024 ∧ n + 262 ≤ 7293034) (kk : ∀ (Θ2 : cTH) (G2 : GS), Th Θ Θ2 → Sim G2 (t + 1) → VG p l e room_1 s m #[Value.ref b] below meth c 9 Θ2 Q9 (k + 15) (n + 262) 4427 (lsL Θ2 b (6 * t) none none) [] G2) : VG p l e room_1 s m #[Value.ref b] below meth c 9 Θ Q9 k n 1683 (lsL Θ b (6 * t) none none) [] G := by
  have hC := hx.1
  have hl9 := hx.2.2.2.2
  have hL := hx.2.2.2.1
  have hop := op_moveEntry hS (show t < 2 ^ 20 by omega) (xs (6 * t + 1)) (xs (6 * t + 2)) (xs (6 * t + 3))
  refine v_aload_n (i := 1) (q := 1684) hC dL_law_1683 rfl rfl rfl ?_
  refine v_arg (q := 1690) hx 1 (by decide) ⟨dL_law_1684, dL_law_1685, dL_law_1687, dL_law_1688, dL_law_1689⟩ rfl (by omega) ?_
  refine v_arg (q := 1696) hx 2 (by decide) ⟨dL_law_1690, dL_law_1691, dL_law_1693, dL_law_1694, dL_law_1695⟩ rfl (by omega) ?_
  refine v_arg (q := 1702) hx 3 (by decide) ⟨dL_law_1696, dL_law_1697, dL_law_1699, dL_law_1700, dL_law_1701⟩ rfl (by omega) ?_
  refine v_aload_n (i := 3) (q := 1703) hC dL_law_1702 rfl rfl rfl ?_
  refine v_callSX (q := 1706) (rm := rm_L_moveEntry) hC (w_L_moveEntry hl9 Θ (xs (6 * t + 1)) (xs (6 * t + 2)) (xs (6 * t + 3)) G (c_X11_moveEntry hl9 Θ (xs (6 * t + 1)) (xs (6 * t + 2)) (xs (6 * t + 3)) G hS.1.gOk_) hop.v (fun E G1 h => mem1 (hop.2 E G1 h).1)) kh_L_moveEntry ml_RL_257 dL_law_1703 rfl rfl rfl (Nat.le_of_ble_eq_true rfl) ⟨Nat.le_of_ble_eq_true rfl, Nat.le_of_ble_eq_true rfl⟩ ⟨Nat.le_of_ble_eq_true rfl, Nat.le_of_ble_eq_true rfl⟩ hroom (fun v G1 hw => ?_) wQ_no
  obtain ⟨kv, rfl, hA, h2⟩ := hop.out cd1 hw
  have hM := hS.M.agC hA
  dsimp only [Option.toList, List.cons_append, List.nil_append]
  refine v_istore (q := 1708) hC dL_law_1706 rfl (lvc rfl) (Nat.le_of_ble_eq_true rfl) (Nat.le_of_ble_eq_true rfl) rfl ?_
  show VG p l e room_1 s m #[Value.ref b] below meth c 9 Θ Q9 (k + 15) (n + 262) 1708 (lsL Θ b (6 * t) (some (.int kv)) none) [] G1
  refine v_aload_n (i := 2) (q := 1709) hC dL_law_1708 rfl rfl rfl ?_
  refine v_arg (q := 1715) hx 1 (by decide) ⟨dL_law_1709, dL_law_1710, dL_law_1712, dL_law_1713, dL_law_1714⟩ rfl (by omega) ?_
  refine v_arg (q := 1721) hx 2 (by decide) ⟨dL_law_1715, dL_law_1716, dL_law_1718, dL_law_1719, dL_law_1720⟩ rfl (by omega) ?_
  refine v_arg (q := 1727) hx 3 (by decide) ⟨dL_law_1721, dL_law_1722, dL_law_1724, dL_law_1725, dL_law_1726⟩ rfl (by omega) ?_
  refine v_callV0 (q := 1730) (rm := rm_X12_moveEntry) hC (c_X12_moveEntry hl9 _ (xs (6 * t + 1)) (xs (6 * t + 2)) (xs (6 * t + 3)) G1 hM.1) k_X12_moveEntry im_yX12_moveEntry se_yX12_moveEntry ml_RL_260 dL_law_1727 rfl rfl rfl rfl rfl rfl (Nat.le_of_ble_eq_true rfl) ⟨Nat.le_of_ble_eq_true rfl, Nat.le_of_ble_eq_true rfl⟩ ⟨rfl, rfl⟩ hroom (fun v2 G2 h3 => ?_) (fun E G2 h3 => by obtain ⟨y, h4, _⟩ := h2 _ _ h3; cases h4)
  obtain ⟨y, e4, h5, h6, h7⟩ := h2 _ _ h3
  cases e4
  dsimp only [Option.toList, List.cons_append, List.nil_append]
  exact law_tailI hx ⟨⟨dL_law_1730, dL_law_1732, dL_law_1733, dL_law_1736, dL_law_1738, dL_law_1743⟩, dL_law_1745, dL_law_1748, dL_law_1749, dL_law_1750, dL_law_1751, dL_law_1753, dL_law_1754, dL_law_1755, dL_law_1760⟩ (by decide) h5 h6 hroom (kk Θ G2 (Th.refl Θ) h7)
set_option maxHeartbeats 2000000 in
set_option maxRecDepth 20000 in
theorem law_c18 (hx : lCx p l s m meth c b L xs Θ) (hS : Sim G t) (hz : 6 * t + 6 ≤ L) (hroom : k + 15 ≤ 601024 ∧ n + 262 ≤ 7293034) (kk : ∀ (Θ2 : cTH) (G2 : GS), Th Θ Θ2 → Sim G2 (t + 1) → VG p l e room_1 s m #[Value.ref b] below meth c 9 Θ2 Q9 (k + 15) (n + 262) 4427 (lsL Θ2 b (6 * t) none none) [] G2) : VG p l e room_1 s m #[Value.ref b] below meth c 9 Θ Q9 k n 1763 (lsL Θ b (6 * t) none none) [] G := by
  have hC := hx.1
  have hl9 := hx.2.2.2.2
  have hL := hx.2.2.2.1
  have hop := op_ask hS (show t < 2 ^ 20 by omega) (xs (6 * t + 1)) (xs (6 * t + 2)) (xs (6 * t + 3))
  refine v_aload_n (i := 1) (q := 1764) hC dL_law_1763 rfl rfl rfl ?_
  refine v_arg (q := 1770) hx 1 (by decide) ⟨dL_law_1764, dL_law_1765, dL_law_1767, dL_law_1768, dL_law_1769⟩ rfl (by omega) ?_
  refine v_arg (q := 1776) hx 2 (by decide) ⟨dL_law_1770, dL_law_1771, dL_law_1773, dL_law_1774, dL_law_1775⟩ rfl (by omega) ?_
  refine v_arg (q := 1782) hx 3 (by decide) ⟨dL_law_1776, dL_law_1777, dL_law_1779, dL_law_1780, dL_law_1781⟩ rfl (by omega) ?_
  refine v_aload_n (i := 3) (q := 1783) hC dL_law_1782 rfl rfl rfl ?_
  refine v_callSX (q := 1786) (rm := rm_L_ask) hC (w_L_ask hl9 Θ (xs (6 * t + 1)) (xs (6 * t + 2)) (xs (6 * t + 3)) G (c_X11_ask hl9 Θ (xs (6 * t + 1)) (xs (6 * t + 2)) (xs (6 * t + 3)) G hS.1.gOk_) hop.v (fun E G1 h => mem2 (hop.2 E G1 h).1)) kh_L_ask ml_RL_261 dL_law_1783 rfl rfl rfl (Nat.le_of_ble_eq_true rfl) ⟨Nat.le_of_ble_eq_true rfl, Nat.le_of_ble_eq_true rfl⟩ ⟨Nat.le_of_ble_eq_true rfl, Nat.le_of_ble_eq_true rfl⟩ hroom (fun v G1 hw => ?_) wQ_no
  obtain ⟨kv, rfl, hA, h2⟩ := hop.out cd2 hw
  have hM := hS.M.agC hA
  dsimp only [Option.toList, List.cons_append, List.nil_append]
  refine v_istore (q := 1788) hC dL_law_1786 rfl (lvc rfl) (Nat.le_of_ble_eq_true rfl) (Nat.le_of_ble_eq_true rfl) rfl ?_
  show VG p l e room_1 s m #[Value.ref b] below meth c 9 Θ Q9 (k + 15) (n + 262) 1788 (lsL Θ b (6 * t) (some (.int kv)) none) [] G1
  refine v_aload_n (i := 2) (q := 1789) hC dL_law_1788 rfl rfl rfl ?_
  refine v_arg (q := 1795) hx 1 (by decide) ⟨dL_law_1789, dL_law_1790, dL_law_1792, dL_law_1793, dL_law_1794⟩ rfl (by omega) ?_
  refine v_arg (q := 1801) hx 2 (by decide) ⟨dL_law_1795, dL_law_1796, dL_law_1798, dL_law_1799, dL_law_1800⟩ rfl (by omega) ?_
  refine v_arg (q := 1807) hx 3 (by decide) ⟨dL_law_1801, dL_law_1802, dL_law_1804, dL_law_1805, dL_law_1806⟩ rfl (by omega) ?_
  refine v_callV0 (q := 1810) (rm := rm_X12_ask) hC (c_X12_ask hl9 _ (xs (6 * t + 1)) (xs (6 * t + 2)) (xs (6 * t + 3)) G1 hM.1) k_X12_ask im_yX12_ask se_yX12_ask ml_RL_263 dL_law_1807 rfl rfl rfl rfl rfl rfl (Nat.le_of_ble_eq_true rfl) ⟨Nat.le_of_ble_eq_true rfl, Nat.le_of_ble_eq_true rfl⟩ ⟨rfl, rfl⟩ hroom (fun v2 G2 h3 => ?_) (fun E G2 h3 => by obtain ⟨y, h4, _⟩ := h2 _ _ h3; cases h4)
  obtain ⟨y, e4, h5, h6, h7⟩ := h2 _ _ h3
  cases e4
  dsimp only [Option.toList, List.cons_append, List.nil_append]
  exact law_tailZ hx ⟨⟨dL_law_1810, dL_law_1812, dL_law_1813, dL_law_1816, dL_law_1818, dL_law_1823⟩, dL_law_1825, dL_law_1828, dL_law_1829, dL_law_1830, dL_law_1831, dL_law_1833, dL_law_1836, dL_law_1837, dL_law_1840, dL_law_1841, dL_law_1842, dL_law_1847⟩ (by decide) h5 h6 hroom (kk Θ G2 (Th.refl Θ) h7)
set_option maxHeartbeats 2000000 in
set_option maxRecDepth 20000 in
theorem law_c19 (hx : lCx p l s m meth c b L xs Θ) (hS : Sim G t) (hz : 6 * t + 6 ≤ L) (hroom : k + 15 ≤ 601024 ∧ n + 262 ≤ 7293034) (kk : ∀ (Θ2 : cTH) (G2 : GS), Th Θ Θ2 → Sim G2 (t + 1) → VG p l e room_1 s m #[Value.ref b] below meth c 9 Θ2 Q9 (k + 15) (n + 262) 4427 (lsL Θ2 b (6 * t) none none) [] G2) : VG p l e room_1 s m #[Value.ref b] below meth c 9 Θ Q9 k n 1850 (lsL Θ b (6 * t) none none) [] G := by
  have hC := hx.1
  have hl9 := hx.2.2.2.2
  have hL := hx.2.2.2.1
  have hop := op_share hS (show t < 2 ^ 20 by omega) (xs (6 * t + 1)) (xs (6 * t + 2)) (xs (6 * t + 3)) (xs (6 * t + 4))
  refine v_aload_n (i := 1) (q := 1851) hC dL_law_1850 rfl rfl rfl ?_
  refine v_arg (q := 1857) hx 1 (by decide) ⟨dL_law_1851, dL_law_1852, dL_law_1854, dL_law_1855, dL_law_1856⟩ rfl (by omega) ?_
  refine v_arg (q := 1863) hx 2 (by decide) ⟨dL_law_1857, dL_law_1858, dL_law_1860, dL_law_1861, dL_law_1862⟩ rfl (by omega) ?_
  refine v_arg (q := 1869) hx 3 (by decide) ⟨dL_law_1863, dL_law_1864, dL_law_1866, dL_law_1867, dL_law_1868⟩ rfl (by omega) ?_
  refine v_arg (q := 1875) hx 4 (by decide) ⟨dL_law_1869, dL_law_1870, dL_law_1872, dL_law_1873, dL_law_1874⟩ rfl (by omega) ?_
  refine v_aload_n (i := 3) (q := 1876) hC dL_law_1875 rfl rfl rfl ?_
  refine v_callSX (q := 1879) (rm := rm_L_share) hC (w_L_share hl9 Θ (xs (6 * t + 1)) (xs (6 * t + 2)) (xs (6 * t + 3)) (xs (6 * t + 4)) G (c_X11_share hl9 Θ (xs (6 * t + 1)) (xs (6 * t + 2)) (xs (6 * t + 3)) (xs (6 * t + 4)) G hS.1.gOk_) hop.v (fun E G1 h => mem3 (hop.2 E G1 h).1)) kh_L_share ml_RL_264 dL_law_1876 rfl rfl rfl (Nat.le_of_ble_eq_true rfl) ⟨Nat.le_of_ble_eq_true rfl, Nat.le_of_ble_eq_true rfl⟩ ⟨Nat.le_of_ble_eq_true rfl, Nat.le_of_ble_eq_true rfl⟩ hroom (fun v G1 hw => ?_) wQ_no
  obtain ⟨kv, rfl, hA, h2⟩ := hop.out cd3 hw
  have hM := hS.M.agC hA
  dsimp only [Option.toList, List.cons_append, List.nil_append]
  refine v_istore (q := 1881) hC dL_law_1879 rfl (lvc rfl) (Nat.le_of_ble_eq_true rfl) (Nat.le_of_ble_eq_true rfl) rfl ?_
  show VG p l e room_1 s m #[Value.ref b] below meth c 9 Θ Q9 (k + 15) (n + 262) 1881 (lsL Θ b (6 * t) (some (.int kv)) none) [] G1
  refine v_aload_n (i := 2) (q := 1882) hC dL_law_1881 rfl rfl rfl ?_
  refine v_arg (q := 1888) hx 1 (by decide) ⟨dL_law_1882, dL_law_1883, dL_law_1885, dL_law_1886, dL_law_1887⟩ rfl (by omega) ?_
  refine v_arg (q := 1894) hx 2 (by decide) ⟨dL_law_1888, dL_law_1889, dL_law_1891, dL_law_1892, dL_law_1893⟩ rfl (by omega) ?_
  refine v_arg (q := 1900) hx 3 (by decide) ⟨dL_law_1894, dL_law_1895, dL_law_1897, dL_law_1898, dL_law_1899⟩ rfl (by omega) ?_
  refine v_arg (q := 1906) hx 4 (by decide) ⟨dL_law_1900, dL_law_1901, dL_law_1903, dL_law_1904, dL_law_1905⟩ rfl (by omega) ?_
  refine v_callV0 (q := 1909) (rm := rm_X12_share) hC (c_X12_share hl9 _ (xs (6 * t + 1)) (xs (6 * t + 2)) (xs (6 * t + 3)) (xs (6 * t + 4)) G1 hM.1) k_X12_share im_yX12_share se_yX12_share ml_RL_267 dL_law_1906 rfl rfl rfl rfl rfl rfl (Nat.le_of_ble_eq_true rfl) ⟨Nat.le_of_ble_eq_true rfl, Nat.le_of_ble_eq_true rfl⟩ ⟨rfl, rfl⟩ hroom (fun v2 G2 h3 => ?_) (fun E G2 h3 => by obtain ⟨y, h4, _⟩ := h2 _ _ h3; cases h4)
  obtain ⟨y, e4, h5, h6, h7⟩ := h2 _ _ h3
  cases e4
  dsimp only [Option.toList, List.cons_append, List.nil_append]
  exact law_tailI hx ⟨⟨dL_law_1909, dL_law_1911, dL_law_1912, dL_law_1915, dL_law_1917, dL_law_1922⟩, dL_law_1924, dL_law_1927, dL_law_1928, dL_law_1929, dL_law_1930, dL_law_1932, dL_law_1933, dL_law_1934, dL_law_1939⟩ (by decide) h5 h6 hroom (kk Θ G2 (Th.refl Θ) h7)
set_option maxHeartbeats 2000000 in
set_option maxRecDepth 20000 in
theorem law_c20 (hx : lCx p l s m meth c b L xs Θ) (hS : Sim G t) (hz : 6 * t + 6 ≤ L) (hroom : k + 15 ≤ 601024 ∧ n + 262 ≤ 7293034) (kk : ∀ (Θ2 : cTH) (G2 : GS), Th Θ Θ2 → Sim G2 (t + 1) → VG p l e room_1 s m #[Value.ref b] below meth c 9 Θ2 Q9 (k + 15) (n + 262) 4427 (lsL Θ2 b (6 * t) none none) [] G2) : VG p l e room_1 s m #[Value.ref b] below meth c 9 Θ Q9 k n 1942 (lsL Θ b (6 * t) none none) [] G := by
  have hC := hx.1
  have hl9 := hx.2.2.2.2
  have hL := hx.2.2.2.1
  obtain ⟨n9, hp⟩ := hS.2.2.2.1
  have hop := op_append hS hp (xs (6 * t + 1))
  refine v_aload_n (i := 1) (q := 1943) hC dL_law_1942 rfl rfl rfl ?_
  refine v_arg (q := 1949) hx 1 (by decide) ⟨dL_law_1943, dL_law_1944, dL_law_1946, dL_law_1947, dL_law_1948⟩ rfl (by omega) ?_
  refine v_aload_n (i := 3) (q := 1950) hC dL_law_1949 rfl rfl rfl ?_
  refine v_callSX (q := 1953) (rm := rm_L_append) hC (w_L_append hl9 Θ (xs (6 * t + 1)) G (c_X11_append hl9 Θ (xs (6 * t + 1)) G ) hop.v (fun E G1 h => mem2 (hop.2 E G1 h).1)) kh_L_append ml_RL_268 dL_law_1950 rfl rfl rfl (Nat.le_of_ble_eq_true rfl) ⟨Nat.le_of_ble_eq_true rfl, Nat.le_of_ble_eq_true rfl⟩ ⟨Nat.le_of_ble_eq_true rfl, Nat.le_of_ble_eq_true rfl⟩ hroom (fun v G1 hw => ?_) wQ_no
  obtain ⟨kv, rfl, hA, h2⟩ := hop.out cd2 hw
  have hM := hS.M.agC hA
  dsimp only [Option.toList, List.cons_append, List.nil_append]
  refine v_istore (q := 1955) hC dL_law_1953 rfl (lvc rfl) (Nat.le_of_ble_eq_true rfl) (Nat.le_of_ble_eq_true rfl) rfl ?_
  show VG p l e room_1 s m #[Value.ref b] below meth c 9 Θ Q9 (k + 15) (n + 262) 1955 (lsL Θ b (6 * t) (some (.int kv)) none) [] G1
  refine v_aload_n (i := 2) (q := 1956) hC dL_law_1955 rfl rfl rfl ?_
  refine v_arg (q := 1962) hx 1 (by decide) ⟨dL_law_1956, dL_law_1957, dL_law_1959, dL_law_1960, dL_law_1961⟩ rfl (by omega) ?_
  refine v_callV0 (q := 1965) (rm := rm_X12_append) hC (c_X12_append hl9 _ (xs (6 * t + 1)) n9 G1 (by rw [hA.1]; exact hp.2.2.1) hp.1) k_X12_append im_yX12_append se_yX12_append ml_RL_270 dL_law_1962 rfl rfl rfl rfl rfl rfl (Nat.le_of_ble_eq_true rfl) ⟨Nat.le_of_ble_eq_true rfl, Nat.le_of_ble_eq_true rfl⟩ ⟨rfl, rfl⟩ hroom (fun v2 G2 h3 => ?_) (fun E G2 h3 => by obtain ⟨y, h4, _⟩ := h2 _ _ h3; cases h4)
  obtain ⟨y, e4, h5, h6, h7⟩ := h2 _ _ h3
  cases e4
  dsimp only [Option.toList, List.cons_append, List.nil_append]
  exact law_tailI hx ⟨⟨dL_law_1965, dL_law_1967, dL_law_1968, dL_law_1971, dL_law_1973, dL_law_1978⟩, dL_law_1980, dL_law_1983, dL_law_1984, dL_law_1985, dL_law_1986, dL_law_1988, dL_law_1989, dL_law_1990, dL_law_1995⟩ (by decide) h5 h6 hroom (kk Θ G2 (Th.refl Θ) h7)
set_option maxHeartbeats 2000000 in
set_option maxRecDepth 20000 in
theorem law_c21 (hx : lCx p l s m meth c b L xs Θ) (hS : Sim G t) (hz : 6 * t + 6 ≤ L) (hroom : k + 15 ≤ 601024 ∧ n + 262 ≤ 7293034) (kk : ∀ (Θ2 : cTH) (G2 : GS), Th Θ Θ2 → Sim G2 (t + 1) → VG p l e room_1 s m #[Value.ref b] below meth c 9 Θ2 Q9 (k + 15) (n + 262) 4427 (lsL Θ2 b (6 * t) none none) [] G2) : VG p l e room_1 s m #[Value.ref b] below meth c 9 Θ Q9 k n 1998 (lsL Θ b (6 * t) none none) [] G := by
  have hC := hx.1
  have hl9 := hx.2.2.2.2
  have hL := hx.2.2.2.1
  have hop := op_clear hS  
  refine v_aload_n (i := 1) (q := 1999) hC dL_law_1998 rfl rfl rfl ?_
  refine v_callV0 (q := 2002) (rm := rm_X11_clear) hC (c_X11_clear hl9 Θ  G ) k_X11_clear im_yX11_clear se_yX11_clear ml_RL_271 dL_law_1999 rfl rfl rfl rfl rfl rfl (Nat.le_of_ble_eq_true rfl) ⟨Nat.le_of_ble_eq_true rfl, Nat.le_of_ble_eq_true rfl⟩ ⟨rfl, rfl⟩ (by have h1 := hroom.1; have h2 := hroom.2; exact ⟨Nat.le_trans (Nat.le_add_right _ _) h1, Nat.le_trans (Nat.le_add_right _ _) h2⟩) (fun v G1 h => ?_) (fun E G1 h => by obtain ⟨x, h4, _⟩ := hop _ _ h; cases h4)
  obtain ⟨x, e1, hA, h2⟩ := hop _ _ h
  cases e1
  have hM := hS.M.agC hA
  dsimp only [Option.toList, List.cons_append, List.nil_append]
  refine v_aload_n (i := 2) (q := 2003) hC dL_law_2002 rfl rfl rfl ?_
  refine v_callV0 (q := 2006) (rm := rm_X12_clear) hC (c_X12_clear hl9 _  G1 ) k_X12_clear im_yX12_clear se_yX12_clear ml_RL_274 dL_law_2003 rfl rfl rfl rfl rfl rfl (Nat.le_of_ble_eq_true rfl) ⟨Nat.le_of_ble_eq_true rfl, Nat.le_of_ble_eq_true rfl⟩ ⟨rfl, rfl⟩ (by have h1 := hroom.1; have h2 := hroom.2; exact ⟨Nat.le_trans (Nat.le_add_right _ _) h1, Nat.le_trans (Nat.le_add_right _ _) h2⟩) (fun v2 G2 h3 => ?_) (fun E G2 h3 => by cases (h2 _ _ h3).1)
  obtain ⟨e2, h7⟩ := h2 _ _ h3
  cases e2
  dsimp only [Option.toList, List.cons_append, List.nil_append]
  exact v_icmp_eq (q := 4427) (q2 := 2009) hC dL_law_2006 (by decide) rfl (fun _ => v_widen (Nat.le_add_right _ _) (Nat.le_add_right _ _) (kk Θ G2 (Th.refl Θ) h7)) (fun h => absurd rfl h)
set_option maxHeartbeats 2000000 in
set_option maxRecDepth 20000 in
theorem law_c22 (hx : lCx p l s m meth c b L xs Θ) (hS : Sim G t) (hz : 6 * t + 6 ≤ L) (hroom : k + 15 ≤ 601024 ∧ n + 262 ≤ 7293034) (kk : ∀ (Θ2 : cTH) (G2 : GS), Th Θ Θ2 → Sim G2 (t + 1) → VG p l e room_1 s m #[Value.ref b] below meth c 9 Θ2 Q9 (k + 15) (n + 262) 4427 (lsL Θ2 b (6 * t) none none) [] G2) : VG p l e room_1 s m #[Value.ref b] below meth c 9 Θ Q9 k n 2011 (lsL Θ b (6 * t) none none) [] G := by
  have hC := hx.1
  have hl9 := hx.2.2.2.2
  have hL := hx.2.2.2.1
  have hop := op_fault hS  
  refine v_aload_n (i := 1) (q := 2012) hC dL_law_2011 rfl rfl rfl ?_
  refine v_callV0 (q := 2015) (rm := rm_X11_fault) hC (c_X11_fault hl9 Θ  G ) k_X11_fault im_yX11_fault se_yX11_fault ml_RL_275 dL_law_2012 rfl rfl rfl rfl rfl rfl (Nat.le_of_ble_eq_true rfl) ⟨Nat.le_of_ble_eq_true rfl, Nat.le_of_ble_eq_true rfl⟩ ⟨rfl, rfl⟩ (by have h1 := hroom.1; have h2 := hroom.2; exact ⟨Nat.le_trans (Nat.le_add_right _ _) h1, Nat.le_trans (Nat.le_add_right _ _) h2⟩) (fun v G1 h => ?_) (fun E G1 h => by obtain ⟨x, h4, _⟩ := hop _ _ h; cases h4)
  obtain ⟨x, e1, hA, h2⟩ := hop _ _ h
  cases e1
  have hM := hS.M.agC hA
  dsimp only [Option.toList, List.cons_append, List.nil_append]
  refine v_aload_n (i := 2) (q := 2016) hC dL_law_2015 rfl rfl rfl ?_
  refine v_callV0 (q := 2019) (rm := rm_X12_fault) hC (c_X12_fault hl9 _  G1 hM.2.1) k_X12_fault im_yX12_fault se_yX12_fault ml_RL_278 dL_law_2016 rfl rfl rfl rfl rfl rfl (Nat.le_of_ble_eq_true rfl) ⟨Nat.le_of_ble_eq_true rfl, Nat.le_of_ble_eq_true rfl⟩ ⟨rfl, rfl⟩ (by have h1 := hroom.1; have h2 := hroom.2; exact ⟨Nat.le_trans (Nat.le_add_right _ _) h1, Nat.le_trans (Nat.le_add_right _ _) h2⟩) (fun v2 G2 h3 => ?_) (fun E G2 h3 => by cases (h2 _ _ h3).1)
  obtain ⟨e2, h7⟩ := h2 _ _ h3
  cases e2
  dsimp only [Option.toList, List.cons_append, List.nil_append]
  exact v_icmp_eq (q := 4427) (q2 := 2022) hC dL_law_2019 (by decide) rfl (fun _ => v_widen (Nat.le_add_right _ _) (Nat.le_add_right _ _) (kk Θ G2 (Th.refl Θ) h7)) (fun h => absurd rfl h)
set_option maxHeartbeats 2000000 in
set_option maxRecDepth 20000 in
theorem law_c23 (hx : lCx p l s m meth c b L xs Θ) (hS : Sim G t) (hz : 6 * t + 6 ≤ L) (hroom : k + 15 ≤ 601024 ∧ n + 262 ≤ 7293034) (kk : ∀ (Θ2 : cTH) (G2 : GS), Th Θ Θ2 → Sim G2 (t + 1) → VG p l e room_1 s m #[Value.ref b] below meth c 9 Θ2 Q9 (k + 15) (n + 262) 4427 (lsL Θ2 b (6 * t) none none) [] G2) : VG p l e room_1 s m #[Value.ref b] below meth c 9 Θ Q9 k n 2024 (lsL Θ b (6 * t) none none) [] G := by
  have hC := hx.1
  have hl9 := hx.2.2.2.2
  have hL := hx.2.2.2.1
  have hop := op_loadEntries hS (show t < 2 ^ 20 by omega) 
  refine v_aload_n (i := 1) (q := 2025) hC dL_law_2024 rfl rfl rfl ?_
  refine v_aload_n (i := 3) (q := 2026) hC dL_law_2025 rfl rfl rfl ?_
  refine v_callSX (q := 2029) (rm := rm_L_loadEntries) hC (w_L_loadEntries hl9 Θ  G (c_X11_loadEntries hl9 Θ  G ) hop.v (fun E G1 h => mem1 (hop.2 E G1 h).1)) kh_L_loadEntries ml_RL_279 dL_law_2026 rfl rfl rfl (Nat.le_of_ble_eq_true rfl) ⟨Nat.le_of_ble_eq_true rfl, Nat.le_of_ble_eq_true rfl⟩ ⟨Nat.le_of_ble_eq_true rfl, Nat.le_of_ble_eq_true rfl⟩ hroom (fun v G1 hw => ?_) wQ_no
  obtain ⟨kv, rfl, hA, h2⟩ := hop.out cd1 hw
  have hM := hS.M.agC hA
  dsimp only [Option.toList, List.cons_append, List.nil_append]
  refine v_istore (q := 2031) hC dL_law_2029 rfl (lvc rfl) (Nat.le_of_ble_eq_true rfl) (Nat.le_of_ble_eq_true rfl) rfl ?_
  show VG p l e room_1 s m #[Value.ref b] below meth c 9 Θ Q9 (k + 15) (n + 262) 2031 (lsL Θ b (6 * t) (some (.int kv)) none) [] G1
  refine v_aload_n (i := 2) (q := 2032) hC dL_law_2031 rfl rfl rfl ?_
  refine v_callV0 (q := 2035) (rm := rm_X12_loadEntries) hC (c_X12_loadEntries hl9 _  G1 hM.1 hM.2.1) k_X12_loadEntries im_yX12_loadEntries se_yX12_loadEntries ml_RL_281 dL_law_2032 rfl rfl rfl rfl rfl rfl (Nat.le_of_ble_eq_true rfl) ⟨Nat.le_of_ble_eq_true rfl, Nat.le_of_ble_eq_true rfl⟩ ⟨rfl, rfl⟩ hroom (fun v2 G2 h3 => ?_) (fun E G2 h3 => by obtain ⟨y, h4, _⟩ := h2 _ _ h3; cases h4)
  obtain ⟨y, e4, h5, h6, h7⟩ := h2 _ _ h3
  cases e4
  dsimp only [Option.toList, List.cons_append, List.nil_append]
  exact law_tailI hx ⟨⟨dL_law_2035, dL_law_2037, dL_law_2038, dL_law_2041, dL_law_2043, dL_law_2048⟩, dL_law_2050, dL_law_2053, dL_law_2054, dL_law_2055, dL_law_2056, dL_law_2058, dL_law_2059, dL_law_2060, dL_law_2065⟩ (by decide) h5 h6 hroom (kk Θ G2 (Th.refl Θ) h7)
set_option maxHeartbeats 2000000 in
set_option maxRecDepth 20000 in
theorem law_c24 (hx : lCx p l s m meth c b L xs Θ) (hS : Sim G t) (hz : 6 * t + 6 ≤ L) (hroom : k + 15 ≤ 601024 ∧ n + 262 ≤ 7293034) (kk : ∀ (Θ2 : cTH) (G2 : GS), Th Θ Θ2 → Sim G2 (t + 1) → VG p l e room_1 s m #[Value.ref b] below meth c 9 Θ2 Q9 (k + 15) (n + 262) 4427 (lsL Θ2 b (6 * t) none none) [] G2) : VG p l e room_1 s m #[Value.ref b] below meth c 9 Θ Q9 k n 2068 (lsL Θ b (6 * t) none none) [] G := by
  have hC := hx.1
  have hl9 := hx.2.2.2.2
  have hL := hx.2.2.2.1
  have hop := op_writeEntries hS (show t < 2 ^ 20 by omega) (xs (6 * t + 1))
  refine v_aload_n (i := 1) (q := 2069) hC dL_law_2068 rfl rfl rfl ?_
  refine v_arg (q := 2075) hx 1 (by decide) ⟨dL_law_2069, dL_law_2070, dL_law_2072, dL_law_2073, dL_law_2074⟩ rfl (by omega) ?_
  refine v_aload_n (i := 3) (q := 2076) hC dL_law_2075 rfl rfl rfl ?_
  refine v_callSX (q := 2079) (rm := rm_L_writeEntries) hC (w_L_writeEntries hl9 Θ (xs (6 * t + 1)) G (c_X11_writeEntries hl9 Θ (xs (6 * t + 1)) G ) hop.v (fun E G1 h => mem1 (hop.2 E G1 h).1)) kh_L_writeEntries ml_RL_282 dL_law_2076 rfl rfl rfl (Nat.le_of_ble_eq_true rfl) ⟨Nat.le_of_ble_eq_true rfl, Nat.le_of_ble_eq_true rfl⟩ ⟨Nat.le_of_ble_eq_true rfl, Nat.le_of_ble_eq_true rfl⟩ hroom (fun v G1 hw => ?_) wQ_no
  obtain ⟨kv, rfl, hA, h2⟩ := hop.out cd1 hw
  have hM := hS.M.agC hA
  dsimp only [Option.toList, List.cons_append, List.nil_append]
  refine v_istore (q := 2081) hC dL_law_2079 rfl (lvc rfl) (Nat.le_of_ble_eq_true rfl) (Nat.le_of_ble_eq_true rfl) rfl ?_
  show VG p l e room_1 s m #[Value.ref b] below meth c 9 Θ Q9 (k + 15) (n + 262) 2081 (lsL Θ b (6 * t) (some (.int kv)) none) [] G1
  refine v_aload_n (i := 2) (q := 2082) hC dL_law_2081 rfl rfl rfl ?_
  refine v_arg (q := 2088) hx 1 (by decide) ⟨dL_law_2082, dL_law_2083, dL_law_2085, dL_law_2086, dL_law_2087⟩ rfl (by omega) ?_
  refine v_callV0 (q := 2091) (rm := rm_X12_writeEntries) hC (c_X12_writeEntries hl9 _ (xs (6 * t + 1)) G1 hM.1) k_X12_writeEntries im_yX12_writeEntries se_yX12_writeEntries ml_RL_284 dL_law_2088 rfl rfl rfl rfl rfl rfl (Nat.le_of_ble_eq_true rfl) ⟨Nat.le_of_ble_eq_true rfl, Nat.le_of_ble_eq_true rfl⟩ ⟨rfl, rfl⟩ hroom (fun v2 G2 h3 => ?_) (fun E G2 h3 => by obtain ⟨y, h4, _⟩ := h2 _ _ h3; cases h4)
  obtain ⟨y, e4, h5, h6, h7⟩ := h2 _ _ h3
  cases e4
  dsimp only [Option.toList, List.cons_append, List.nil_append]
  exact law_tailI hx ⟨⟨dL_law_2091, dL_law_2093, dL_law_2094, dL_law_2097, dL_law_2099, dL_law_2104⟩, dL_law_2106, dL_law_2109, dL_law_2110, dL_law_2111, dL_law_2112, dL_law_2114, dL_law_2115, dL_law_2116, dL_law_2121⟩ (by decide) h5 h6 hroom (kk Θ G2 (Th.refl Θ) h7)
set_option maxHeartbeats 2000000 in
set_option maxRecDepth 20000 in
theorem law_c25 (hx : lCx p l s m meth c b L xs Θ) (hS : Sim G t) (hz : 6 * t + 6 ≤ L) (hroom : k + 15 ≤ 601024 ∧ n + 262 ≤ 7293034) (kk : ∀ (Θ2 : cTH) (G2 : GS), Th Θ Θ2 → Sim G2 (t + 1) → VG p l e room_1 s m #[Value.ref b] below meth c 9 Θ2 Q9 (k + 15) (n + 262) 4427 (lsL Θ2 b (6 * t) none none) [] G2) : VG p l e room_1 s m #[Value.ref b] below meth c 9 Θ Q9 k n 2124 (lsL Θ b (6 * t) none none) [] G := by
  have hC := hx.1
  have hl9 := hx.2.2.2.2
  have hL := hx.2.2.2.1
  have hop := op_codeAt hS (show t < 2 ^ 20 by omega) (xs (6 * t + 1))
  refine v_aload_n (i := 1) (q := 2125) hC dL_law_2124 rfl rfl rfl ?_
  refine v_arg (q := 2131) hx 1 (by decide) ⟨dL_law_2125, dL_law_2126, dL_law_2128, dL_law_2129, dL_law_2130⟩ rfl (by omega) ?_
  refine v_aload_n (i := 3) (q := 2132) hC dL_law_2131 rfl rfl rfl ?_
  refine v_callSX (q := 2135) (rm := rm_L_codeAt) hC (w_L_codeAt hl9 Θ (xs (6 * t + 1)) G (c_X11_codeAt hl9 Θ (xs (6 * t + 1)) G ) hop.v (fun E G1 h => mem1 (hop.2 E G1 h).1)) kh_L_codeAt ml_RL_285 dL_law_2132 rfl rfl rfl (Nat.le_of_ble_eq_true rfl) ⟨Nat.le_of_ble_eq_true rfl, Nat.le_of_ble_eq_true rfl⟩ ⟨Nat.le_of_ble_eq_true rfl, Nat.le_of_ble_eq_true rfl⟩ hroom (fun v G1 hw => ?_) wQ_no
  obtain ⟨kv, rfl, hA, h2⟩ := hop.out cd1 hw
  have hM := hS.M.agC hA
  dsimp only [Option.toList, List.cons_append, List.nil_append]
  refine v_istore (q := 2137) hC dL_law_2135 rfl (lvc rfl) (Nat.le_of_ble_eq_true rfl) (Nat.le_of_ble_eq_true rfl) rfl ?_
  show VG p l e room_1 s m #[Value.ref b] below meth c 9 Θ Q9 (k + 15) (n + 262) 2137 (lsL Θ b (6 * t) (some (.int kv)) none) [] G1
  refine v_aload_n (i := 2) (q := 2138) hC dL_law_2137 rfl rfl rfl ?_
  refine v_arg (q := 2144) hx 1 (by decide) ⟨dL_law_2138, dL_law_2139, dL_law_2141, dL_law_2142, dL_law_2143⟩ rfl (by omega) ?_
  refine v_callV0 (q := 2147) (rm := rm_X12_codeAt) hC (c_X12_codeAt hl9 _ (xs (6 * t + 1)) G1 hM.2.1.2) k_X12_codeAt im_yX12_codeAt se_yX12_codeAt ml_RL_287 dL_law_2144 rfl rfl rfl rfl rfl rfl (Nat.le_of_ble_eq_true rfl) ⟨Nat.le_of_ble_eq_true rfl, Nat.le_of_ble_eq_true rfl⟩ ⟨rfl, rfl⟩ hroom (fun v2 G2 h3 => ?_) (fun E G2 h3 => by obtain ⟨y, h4, _⟩ := h2 _ _ h3; cases h4)
  obtain ⟨y, e4, h5, h6, h7⟩ := h2 _ _ h3
  cases e4
  dsimp only [Option.toList, List.cons_append, List.nil_append]
  exact law_tailI hx ⟨⟨dL_law_2147, dL_law_2149, dL_law_2150, dL_law_2153, dL_law_2155, dL_law_2160⟩, dL_law_2162, dL_law_2165, dL_law_2166, dL_law_2167, dL_law_2168, dL_law_2170, dL_law_2171, dL_law_2172, dL_law_2177⟩ (by decide) h5 h6 hroom (kk Θ G2 (Th.refl Θ) h7)
set_option maxHeartbeats 2000000 in
set_option maxRecDepth 20000 in
theorem law_c26 (hx : lCx p l s m meth c b L xs Θ) (hS : Sim G t) (hz : 6 * t + 6 ≤ L) (hroom : k + 15 ≤ 601024 ∧ n + 262 ≤ 7293034) (kk : ∀ (Θ2 : cTH) (G2 : GS), Th Θ Θ2 → Sim G2 (t + 1) → VG p l e room_1 s m #[Value.ref b] below meth c 9 Θ2 Q9 (k + 15) (n + 262) 4427 (lsL Θ2 b (6 * t) none none) [] G2) : VG p l e room_1 s m #[Value.ref b] below meth c 9 Θ Q9 k n 2180 (lsL Θ b (6 * t) none none) [] G := by
  have hC := hx.1
  have hl9 := hx.2.2.2.2
  have hL := hx.2.2.2.1
  have hop := op_users hS  
  refine v_aload_n (i := 1) (q := 2181) hC dL_law_2180 rfl rfl rfl ?_
  refine v_callV0 (q := 2184) (rm := rm_X11_users) hC (c_X11_users hl9 Θ  G ) k_X11_users im_yX11_users se_yX11_users ml_RL_288 dL_law_2181 rfl rfl rfl rfl rfl rfl (Nat.le_of_ble_eq_true rfl) ⟨Nat.le_of_ble_eq_true rfl, Nat.le_of_ble_eq_true rfl⟩ ⟨rfl, rfl⟩ (by have h1 := hroom.1; have h2 := hroom.2; exact ⟨Nat.le_trans (Nat.le_add_right _ _) h1, Nat.le_trans (Nat.le_add_right _ _) h2⟩) (fun v G1 h => ?_) (fun E G1 h => by obtain ⟨x, h4, _⟩ := hop _ _ h; cases h4)
  obtain ⟨x, e1, hA, h2⟩ := hop _ _ h
  cases e1
  have hM := hS.M.agC hA
  dsimp only [Option.toList, List.cons_append, List.nil_append]
  refine v_aload_n (i := 2) (q := 2185) hC dL_law_2184 rfl rfl rfl ?_
  refine v_callV0 (q := 2188) (rm := rm_X12_users) hC (c_X12_users hl9 _  G1 hM.1) k_X12_users im_yX12_users se_yX12_users ml_RL_291 dL_law_2185 rfl rfl rfl rfl rfl rfl (Nat.le_of_ble_eq_true rfl) ⟨Nat.le_of_ble_eq_true rfl, Nat.le_of_ble_eq_true rfl⟩ ⟨rfl, rfl⟩ (by have h1 := hroom.1; have h2 := hroom.2; exact ⟨Nat.le_trans (Nat.le_add_right _ _) h1, Nat.le_trans (Nat.le_add_right _ _) h2⟩) (fun v2 G2 h3 => ?_) (fun E G2 h3 => by cases (h2 _ _ h3).1)
  obtain ⟨e2, h7⟩ := h2 _ _ h3
  cases e2
  dsimp only [Option.toList, List.cons_append, List.nil_append]
  exact v_icmp_eq (q := 4427) (q2 := 2191) hC dL_law_2188 (by decide) rfl (fun _ => v_widen (Nat.le_add_right _ _) (Nat.le_add_right _ _) (kk Θ G2 (Th.refl Θ) h7)) (fun h => absurd rfl h)
set_option maxHeartbeats 2000000 in
set_option maxRecDepth 20000 in
theorem law_c27 (hx : lCx p l s m meth c b L xs Θ) (hS : Sim G t) (hz : 6 * t + 6 ≤ L) (hroom : k + 15 ≤ 601024 ∧ n + 262 ≤ 7293034) (kk : ∀ (Θ2 : cTH) (G2 : GS), Th Θ Θ2 → Sim G2 (t + 1) → VG p l e room_1 s m #[Value.ref b] below meth c 9 Θ2 Q9 (k + 15) (n + 262) 4427 (lsL Θ2 b (6 * t) none none) [] G2) : VG p l e room_1 s m #[Value.ref b] below meth c 9 Θ Q9 k n 2193 (lsL Θ b (6 * t) none none) [] G := by
  have hC := hx.1
  have hl9 := hx.2.2.2.2
  have hL := hx.2.2.2.1
  have hop := op_groups hS  
  refine v_aload_n (i := 1) (q := 2194) hC dL_law_2193 rfl rfl rfl ?_
  refine v_callV0 (q := 2197) (rm := rm_X11_groups) hC (c_X11_groups hl9 Θ  G ) k_X11_groups im_yX11_groups se_yX11_groups ml_RL_292 dL_law_2194 rfl rfl rfl rfl rfl rfl (Nat.le_of_ble_eq_true rfl) ⟨Nat.le_of_ble_eq_true rfl, Nat.le_of_ble_eq_true rfl⟩ ⟨rfl, rfl⟩ (by have h1 := hroom.1; have h2 := hroom.2; exact ⟨Nat.le_trans (Nat.le_add_right _ _) h1, Nat.le_trans (Nat.le_add_right _ _) h2⟩) (fun v G1 h => ?_) (fun E G1 h => by obtain ⟨x, h4, _⟩ := hop _ _ h; cases h4)
  obtain ⟨x, e1, hA, h2⟩ := hop _ _ h
  cases e1
  have hM := hS.M.agC hA
  dsimp only [Option.toList, List.cons_append, List.nil_append]
  refine v_aload_n (i := 2) (q := 2198) hC dL_law_2197 rfl rfl rfl ?_
  refine v_callV0 (q := 2201) (rm := rm_X12_groups) hC (c_X12_groups hl9 _  G1 hM.1) k_X12_groups im_yX12_groups se_yX12_groups ml_RL_295 dL_law_2198 rfl rfl rfl rfl rfl rfl (Nat.le_of_ble_eq_true rfl) ⟨Nat.le_of_ble_eq_true rfl, Nat.le_of_ble_eq_true rfl⟩ ⟨rfl, rfl⟩ (by have h1 := hroom.1; have h2 := hroom.2; exact ⟨Nat.le_trans (Nat.le_add_right _ _) h1, Nat.le_trans (Nat.le_add_right _ _) h2⟩) (fun v2 G2 h3 => ?_) (fun E G2 h3 => by cases (h2 _ _ h3).1)
  obtain ⟨e2, h7⟩ := h2 _ _ h3
  cases e2
  dsimp only [Option.toList, List.cons_append, List.nil_append]
  exact v_icmp_eq (q := 4427) (q2 := 2204) hC dL_law_2201 (by decide) rfl (fun _ => v_widen (Nat.le_add_right _ _) (Nat.le_add_right _ _) (kk Θ G2 (Th.refl Θ) h7)) (fun h => absurd rfl h)
set_option maxHeartbeats 2000000 in
set_option maxRecDepth 20000 in
theorem law_c28 (hx : lCx p l s m meth c b L xs Θ) (hS : Sim G t) (hz : 6 * t + 6 ≤ L) (hroom : k + 15 ≤ 601024 ∧ n + 262 ≤ 7293034) (kk : ∀ (Θ2 : cTH) (G2 : GS), Th Θ Θ2 → Sim G2 (t + 1) → VG p l e room_1 s m #[Value.ref b] below meth c 9 Θ2 Q9 (k + 15) (n + 262) 4427 (lsL Θ2 b (6 * t) none none) [] G2) : VG p l e room_1 s m #[Value.ref b] below meth c 9 Θ Q9 k n 2206 (lsL Θ b (6 * t) none none) [] G := by
  have hC := hx.1
  have hl9 := hx.2.2.2.2
  have hL := hx.2.2.2.1
  have hop := op_isMember hS (show t < 2 ^ 20 by omega) (xs (6 * t + 1)) (xs (6 * t + 2))
  refine v_aload_n (i := 1) (q := 2207) hC dL_law_2206 rfl rfl rfl ?_
  refine v_arg (q := 2213) hx 1 (by decide) ⟨dL_law_2207, dL_law_2208, dL_law_2210, dL_law_2211, dL_law_2212⟩ rfl (by omega) ?_
  refine v_arg (q := 2219) hx 2 (by decide) ⟨dL_law_2213, dL_law_2214, dL_law_2216, dL_law_2217, dL_law_2218⟩ rfl (by omega) ?_
  refine v_aload_n (i := 3) (q := 2220) hC dL_law_2219 rfl rfl rfl ?_
  refine v_callSX (q := 2223) (rm := rm_L_isMember) hC (w_L_isMember hl9 Θ (xs (6 * t + 1)) (xs (6 * t + 2)) G (c_X11_isMember hl9 Θ (xs (6 * t + 1)) (xs (6 * t + 2)) G ) hop.v (fun E G1 h => mem1 (hop.2 E G1 h).1)) kh_L_isMember ml_RL_296 dL_law_2220 rfl rfl rfl (Nat.le_of_ble_eq_true rfl) ⟨Nat.le_of_ble_eq_true rfl, Nat.le_of_ble_eq_true rfl⟩ ⟨Nat.le_of_ble_eq_true rfl, Nat.le_of_ble_eq_true rfl⟩ hroom (fun v G1 hw => ?_) wQ_no
  obtain ⟨kv, rfl, hA, h2⟩ := hop.out cd1 hw
  have hM := hS.M.agC hA
  dsimp only [Option.toList, List.cons_append, List.nil_append]
  refine v_istore (q := 2225) hC dL_law_2223 rfl (lvc rfl) (Nat.le_of_ble_eq_true rfl) (Nat.le_of_ble_eq_true rfl) rfl ?_
  show VG p l e room_1 s m #[Value.ref b] below meth c 9 Θ Q9 (k + 15) (n + 262) 2225 (lsL Θ b (6 * t) (some (.int kv)) none) [] G1
  refine v_aload_n (i := 2) (q := 2226) hC dL_law_2225 rfl rfl rfl ?_
  refine v_arg (q := 2232) hx 1 (by decide) ⟨dL_law_2226, dL_law_2227, dL_law_2229, dL_law_2230, dL_law_2231⟩ rfl (by omega) ?_
  refine v_arg (q := 2238) hx 2 (by decide) ⟨dL_law_2232, dL_law_2233, dL_law_2235, dL_law_2236, dL_law_2237⟩ rfl (by omega) ?_
  refine v_callV0 (q := 2241) (rm := rm_X12_isMember) hC (c_X12_isMember hl9 _ (xs (6 * t + 1)) (xs (6 * t + 2)) G1 hM.1) k_X12_isMember im_yX12_isMember se_yX12_isMember ml_RL_298 dL_law_2238 rfl rfl rfl rfl rfl rfl (Nat.le_of_ble_eq_true rfl) ⟨Nat.le_of_ble_eq_true rfl, Nat.le_of_ble_eq_true rfl⟩ ⟨rfl, rfl⟩ hroom (fun v2 G2 h3 => ?_) (fun E G2 h3 => by obtain ⟨y, h4, _⟩ := h2 _ _ h3; cases h4)
  obtain ⟨y, e4, h5, h6, h7⟩ := h2 _ _ h3
  cases e4
  dsimp only [Option.toList, List.cons_append, List.nil_append]
  exact law_tailZ hx ⟨⟨dL_law_2241, dL_law_2243, dL_law_2244, dL_law_2247, dL_law_2249, dL_law_2254⟩, dL_law_2256, dL_law_2259, dL_law_2260, dL_law_2261, dL_law_2262, dL_law_2264, dL_law_2267, dL_law_2268, dL_law_2271, dL_law_2272, dL_law_2273, dL_law_2278⟩ (by decide) h5 h6 hroom (kk Θ G2 (Th.refl Θ) h7)
set_option maxHeartbeats 2000000 in
set_option maxRecDepth 20000 in
theorem law_c29 (hx : lCx p l s m meth c b L xs Θ) (hS : Sim G t) (hz : 6 * t + 6 ≤ L) (hroom : k + 15 ≤ 601024 ∧ n + 262 ≤ 7293034) (kk : ∀ (Θ2 : cTH) (G2 : GS), Th Θ Θ2 → Sim G2 (t + 1) → VG p l e room_1 s m #[Value.ref b] below meth c 9 Θ2 Q9 (k + 15) (n + 262) 4427 (lsL Θ2 b (6 * t) none none) [] G2) : VG p l e room_1 s m #[Value.ref b] below meth c 9 Θ Q9 k n 2281 (lsL Θ b (6 * t) none none) [] G := by
  have hC := hx.1
  have hl9 := hx.2.2.2.2
  have hL := hx.2.2.2.1
  have hop := op_isNested hS (show t < 2 ^ 20 by omega) (xs (6 * t + 1)) (xs (6 * t + 2))
  refine v_aload_n (i := 1) (q := 2282) hC dL_law_2281 rfl rfl rfl ?_
  refine v_arg (q := 2288) hx 1 (by decide) ⟨dL_law_2282, dL_law_2283, dL_law_2285, dL_law_2286, dL_law_2287⟩ rfl (by omega) ?_
  refine v_arg (q := 2294) hx 2 (by decide) ⟨dL_law_2288, dL_law_2289, dL_law_2291, dL_law_2292, dL_law_2293⟩ rfl (by omega) ?_
  refine v_aload_n (i := 3) (q := 2295) hC dL_law_2294 rfl rfl rfl ?_
  refine v_callSX (q := 2298) (rm := rm_L_isNested) hC (w_L_isNested hl9 Θ (xs (6 * t + 1)) (xs (6 * t + 2)) G (c_X11_isNested hl9 Θ (xs (6 * t + 1)) (xs (6 * t + 2)) G ) hop.v (fun E G1 h => mem1 (hop.2 E G1 h).1)) kh_L_isNested ml_RL_299 dL_law_2295 rfl rfl rfl (Nat.le_of_ble_eq_true rfl) ⟨Nat.le_of_ble_eq_true rfl, Nat.le_of_ble_eq_true rfl⟩ ⟨Nat.le_of_ble_eq_true rfl, Nat.le_of_ble_eq_true rfl⟩ hroom (fun v G1 hw => ?_) wQ_no
  obtain ⟨kv, rfl, hA, h2⟩ := hop.out cd1 hw
  have hM := hS.M.agC hA
  dsimp only [Option.toList, List.cons_append, List.nil_append]
  refine v_istore (q := 2300) hC dL_law_2298 rfl (lvc rfl) (Nat.le_of_ble_eq_true rfl) (Nat.le_of_ble_eq_true rfl) rfl ?_
  show VG p l e room_1 s m #[Value.ref b] below meth c 9 Θ Q9 (k + 15) (n + 262) 2300 (lsL Θ b (6 * t) (some (.int kv)) none) [] G1
  refine v_aload_n (i := 2) (q := 2301) hC dL_law_2300 rfl rfl rfl ?_
  refine v_arg (q := 2307) hx 1 (by decide) ⟨dL_law_2301, dL_law_2302, dL_law_2304, dL_law_2305, dL_law_2306⟩ rfl (by omega) ?_
  refine v_arg (q := 2313) hx 2 (by decide) ⟨dL_law_2307, dL_law_2308, dL_law_2310, dL_law_2311, dL_law_2312⟩ rfl (by omega) ?_
  refine v_callV0 (q := 2316) (rm := rm_X12_isNested) hC (c_X12_isNested hl9 _ (xs (6 * t + 1)) (xs (6 * t + 2)) G1 hM.1) k_X12_isNested im_yX12_isNested se_yX12_isNested ml_RL_301 dL_law_2313 rfl rfl rfl rfl rfl rfl (Nat.le_of_ble_eq_true rfl) ⟨Nat.le_of_ble_eq_true rfl, Nat.le_of_ble_eq_true rfl⟩ ⟨rfl, rfl⟩ hroom (fun v2 G2 h3 => ?_) (fun E G2 h3 => by obtain ⟨y, h4, _⟩ := h2 _ _ h3; cases h4)
  obtain ⟨y, e4, h5, h6, h7⟩ := h2 _ _ h3
  cases e4
  dsimp only [Option.toList, List.cons_append, List.nil_append]
  exact law_tailZ hx ⟨⟨dL_law_2316, dL_law_2318, dL_law_2319, dL_law_2322, dL_law_2324, dL_law_2329⟩, dL_law_2331, dL_law_2334, dL_law_2335, dL_law_2336, dL_law_2337, dL_law_2339, dL_law_2342, dL_law_2343, dL_law_2346, dL_law_2347, dL_law_2348, dL_law_2353⟩ (by decide) h5 h6 hroom (kk Θ G2 (Th.refl Θ) h7)
set_option maxHeartbeats 2000000 in
set_option maxRecDepth 20000 in
theorem law_c30 (hx : lCx p l s m meth c b L xs Θ) (hS : Sim G t) (hz : 6 * t + 6 ≤ L) (hroom : k + 15 ≤ 601024 ∧ n + 262 ≤ 7293034) (kk : ∀ (Θ2 : cTH) (G2 : GS), Th Θ Θ2 → Sim G2 (t + 1) → VG p l e room_1 s m #[Value.ref b] below meth c 9 Θ2 Q9 (k + 15) (n + 262) 4427 (lsL Θ2 b (6 * t) none none) [] G2) : VG p l e room_1 s m #[Value.ref b] below meth c 9 Θ Q9 k n 2356 (lsL Θ b (6 * t) none none) [] G := by
  have hC := hx.1
  have hl9 := hx.2.2.2.2
  have hL := hx.2.2.2.1
  have hop := op_belongs hS (show t < 2 ^ 20 by omega) (xs (6 * t + 1)) (xs (6 * t + 2))
  refine v_aload_n (i := 1) (q := 2357) hC dL_law_2356 rfl rfl rfl ?_
  refine v_arg (q := 2363) hx 1 (by decide) ⟨dL_law_2357, dL_law_2358, dL_law_2360, dL_law_2361, dL_law_2362⟩ rfl (by omega) ?_
  refine v_arg (q := 2369) hx 2 (by decide) ⟨dL_law_2363, dL_law_2364, dL_law_2366, dL_law_2367, dL_law_2368⟩ rfl (by omega) ?_
  refine v_aload_n (i := 3) (q := 2370) hC dL_law_2369 rfl rfl rfl ?_
  refine v_callSX (q := 2373) (rm := rm_L_belongs) hC (w_L_belongs hl9 Θ (xs (6 * t + 1)) (xs (6 * t + 2)) G (c_X11_belongs hl9 Θ (xs (6 * t + 1)) (xs (6 * t + 2)) G hS.1.gOk_) hop.v (fun E G1 h => mem1 (hop.2 E G1 h).1)) kh_L_belongs ml_RL_302 dL_law_2370 rfl rfl rfl (Nat.le_of_ble_eq_true rfl) ⟨Nat.le_of_ble_eq_true rfl, Nat.le_of_ble_eq_true rfl⟩ ⟨Nat.le_of_ble_eq_true rfl, Nat.le_of_ble_eq_true rfl⟩ hroom (fun v G1 hw => ?_) wQ_no
  obtain ⟨kv, rfl, hA, h2⟩ := hop.out cd1 hw
  have hM := hS.M.agC hA
  dsimp only [Option.toList, List.cons_append, List.nil_append]
  refine v_istore (q := 2375) hC dL_law_2373 rfl (lvc rfl) (Nat.le_of_ble_eq_true rfl) (Nat.le_of_ble_eq_true rfl) rfl ?_
  show VG p l e room_1 s m #[Value.ref b] below meth c 9 Θ Q9 (k + 15) (n + 262) 2375 (lsL Θ b (6 * t) (some (.int kv)) none) [] G1
  refine v_aload_n (i := 2) (q := 2376) hC dL_law_2375 rfl rfl rfl ?_
  refine v_arg (q := 2382) hx 1 (by decide) ⟨dL_law_2376, dL_law_2377, dL_law_2379, dL_law_2380, dL_law_2381⟩ rfl (by omega) ?_
  refine v_arg (q := 2388) hx 2 (by decide) ⟨dL_law_2382, dL_law_2383, dL_law_2385, dL_law_2386, dL_law_2387⟩ rfl (by omega) ?_
  refine v_callV0 (q := 2391) (rm := rm_X12_belongs) hC (c_X12_belongs hl9 _ (xs (6 * t + 1)) (xs (6 * t + 2)) G1 hM.1) k_X12_belongs im_yX12_belongs se_yX12_belongs ml_RL_304 dL_law_2388 rfl rfl rfl rfl rfl rfl (Nat.le_of_ble_eq_true rfl) ⟨Nat.le_of_ble_eq_true rfl, Nat.le_of_ble_eq_true rfl⟩ ⟨rfl, rfl⟩ hroom (fun v2 G2 h3 => ?_) (fun E G2 h3 => by obtain ⟨y, h4, _⟩ := h2 _ _ h3; cases h4)
  obtain ⟨y, e4, h5, h6, h7⟩ := h2 _ _ h3
  cases e4
  dsimp only [Option.toList, List.cons_append, List.nil_append]
  exact law_tailZ hx ⟨⟨dL_law_2391, dL_law_2393, dL_law_2394, dL_law_2397, dL_law_2399, dL_law_2404⟩, dL_law_2406, dL_law_2409, dL_law_2410, dL_law_2411, dL_law_2412, dL_law_2414, dL_law_2417, dL_law_2418, dL_law_2421, dL_law_2422, dL_law_2423, dL_law_2428⟩ (by decide) h5 h6 hroom (kk Θ G2 (Th.refl Θ) h7)
set_option maxHeartbeats 2000000 in
set_option maxRecDepth 20000 in
theorem law_c31 (hx : lCx p l s m meth c b L xs Θ) (hS : Sim G t) (hz : 6 * t + 6 ≤ L) (hroom : k + 15 ≤ 601024 ∧ n + 262 ≤ 7293034) (kk : ∀ (Θ2 : cTH) (G2 : GS), Th Θ Θ2 → Sim G2 (t + 1) → VG p l e room_1 s m #[Value.ref b] below meth c 9 Θ2 Q9 (k + 15) (n + 262) 4427 (lsL Θ2 b (6 * t) none none) [] G2) : VG p l e room_1 s m #[Value.ref b] below meth c 9 Θ Q9 k n 2431 (lsL Θ b (6 * t) none none) [] G := by
  have hC := hx.1
  have hl9 := hx.2.2.2.2
  have hL := hx.2.2.2.1
  have hop := op_belongsByMembers hS (show t < 2 ^ 20 by omega) (xs (6 * t + 1)) (xs (6 * t + 2))
  refine v_aload_n (i := 1) (q := 2432) hC dL_law_2431 rfl rfl rfl ?_
  refine v_arg (q := 2438) hx 1 (by decide) ⟨dL_law_2432, dL_law_2433, dL_law_2435, dL_law_2436, dL_law_2437⟩ rfl (by omega) ?_
  refine v_arg (q := 2444) hx 2 (by decide) ⟨dL_law_2438, dL_law_2439, dL_law_2441, dL_law_2442, dL_law_2443⟩ rfl (by omega) ?_
  refine v_aload_n (i := 3) (q := 2445) hC dL_law_2444 rfl rfl rfl ?_
  refine v_callSX (q := 2448) (rm := rm_L_belongsByMembers) hC (w_L_belongsByMembers hl9 Θ (xs (6 * t + 1)) (xs (6 * t + 2)) G (c_X11_belongsByMembers hl9 Θ (xs (6 * t + 1)) (xs (6 * t + 2)) G hS.1.gOk_) hop.v (fun E G1 h => mem1 (hop.2 E G1 h).1)) kh_L_belongsByMembers ml_RL_305 dL_law_2445 rfl rfl rfl (Nat.le_of_ble_eq_true rfl) ⟨Nat.le_of_ble_eq_true rfl, Nat.le_of_ble_eq_true rfl⟩ ⟨Nat.le_of_ble_eq_true rfl, Nat.le_of_ble_eq_true rfl⟩ hroom (fun v G1 hw => ?_) wQ_no
  obtain ⟨kv, rfl, hA, h2⟩ := hop.out cd1 hw
  have hM := hS.M.agC hA
  dsimp only [Option.toList, List.cons_append, List.nil_append]
  refine v_istore (q := 2450) hC dL_law_2448 rfl (lvc rfl) (Nat.le_of_ble_eq_true rfl) (Nat.le_of_ble_eq_true rfl) rfl ?_
  show VG p l e room_1 s m #[Value.ref b] below meth c 9 Θ Q9 (k + 15) (n + 262) 2450 (lsL Θ b (6 * t) (some (.int kv)) none) [] G1
  refine v_aload_n (i := 2) (q := 2451) hC dL_law_2450 rfl rfl rfl ?_
  refine v_arg (q := 2457) hx 1 (by decide) ⟨dL_law_2451, dL_law_2452, dL_law_2454, dL_law_2455, dL_law_2456⟩ rfl (by omega) ?_
  refine v_arg (q := 2463) hx 2 (by decide) ⟨dL_law_2457, dL_law_2458, dL_law_2460, dL_law_2461, dL_law_2462⟩ rfl (by omega) ?_
  refine v_callV0 (q := 2466) (rm := rm_X12_belongsByMembers) hC (c_X12_belongsByMembers hl9 _ (xs (6 * t + 1)) (xs (6 * t + 2)) G1 hM.1) k_X12_belongsByMembers im_yX12_belongsByMembers se_yX12_belongsByMembers ml_RL_307 dL_law_2463 rfl rfl rfl rfl rfl rfl (Nat.le_of_ble_eq_true rfl) ⟨Nat.le_of_ble_eq_true rfl, Nat.le_of_ble_eq_true rfl⟩ ⟨rfl, rfl⟩ hroom (fun v2 G2 h3 => ?_) (fun E G2 h3 => by obtain ⟨y, h4, _⟩ := h2 _ _ h3; cases h4)
  obtain ⟨y, e4, h5, h6, h7⟩ := h2 _ _ h3
  cases e4
  dsimp only [Option.toList, List.cons_append, List.nil_append]
  exact law_tailZ hx ⟨⟨dL_law_2466, dL_law_2468, dL_law_2469, dL_law_2472, dL_law_2474, dL_law_2479⟩, dL_law_2481, dL_law_2484, dL_law_2485, dL_law_2486, dL_law_2487, dL_law_2489, dL_law_2492, dL_law_2493, dL_law_2496, dL_law_2497, dL_law_2498, dL_law_2503⟩ (by decide) h5 h6 hroom (kk Θ G2 (Th.refl Θ) h7)
set_option maxHeartbeats 2000000 in
set_option maxRecDepth 20000 in
theorem law_c32 (hx : lCx p l s m meth c b L xs Θ) (hS : Sim G t) (hz : 6 * t + 6 ≤ L) (hroom : k + 15 ≤ 601024 ∧ n + 262 ≤ 7293034) (kk : ∀ (Θ2 : cTH) (G2 : GS), Th Θ Θ2 → Sim G2 (t + 1) → VG p l e room_1 s m #[Value.ref b] below meth c 9 Θ2 Q9 (k + 15) (n + 262) 4427 (lsL Θ2 b (6 * t) none none) [] G2) : VG p l e room_1 s m #[Value.ref b] below meth c 9 Θ Q9 k n 2506 (lsL Θ b (6 * t) none none) [] G := by
  have hC := hx.1
  have hl9 := hx.2.2.2.2
  have hL := hx.2.2.2.1
  have hop := op_objects hS  
  refine v_aload_n (i := 1) (q := 2507) hC dL_law_2506 rfl rfl rfl ?_
  refine v_callV0 (q := 2510) (rm := rm_X11_objects) hC (c_X11_objects hl9 Θ  G ) k_X11_objects im_yX11_objects se_yX11_objects ml_RL_308 dL_law_2507 rfl rfl rfl rfl rfl rfl (Nat.le_of_ble_eq_true rfl) ⟨Nat.le_of_ble_eq_true rfl, Nat.le_of_ble_eq_true rfl⟩ ⟨rfl, rfl⟩ (by have h1 := hroom.1; have h2 := hroom.2; exact ⟨Nat.le_trans (Nat.le_add_right _ _) h1, Nat.le_trans (Nat.le_add_right _ _) h2⟩) (fun v G1 h => ?_) (fun E G1 h => by obtain ⟨x, h4, _⟩ := hop _ _ h; cases h4)
  obtain ⟨x, e1, hA, h2⟩ := hop _ _ h
  cases e1
  have hM := hS.M.agC hA
  dsimp only [Option.toList, List.cons_append, List.nil_append]
  refine v_aload_n (i := 2) (q := 2511) hC dL_law_2510 rfl rfl rfl ?_
  refine v_callV0 (q := 2514) (rm := rm_X12_objects) hC (c_X12_objects hl9 _  G1 hM.1) k_X12_objects im_yX12_objects se_yX12_objects ml_RL_311 dL_law_2511 rfl rfl rfl rfl rfl rfl (Nat.le_of_ble_eq_true rfl) ⟨Nat.le_of_ble_eq_true rfl, Nat.le_of_ble_eq_true rfl⟩ ⟨rfl, rfl⟩ (by have h1 := hroom.1; have h2 := hroom.2; exact ⟨Nat.le_trans (Nat.le_add_right _ _) h1, Nat.le_trans (Nat.le_add_right _ _) h2⟩) (fun v2 G2 h3 => ?_) (fun E G2 h3 => by cases (h2 _ _ h3).1)
  obtain ⟨e2, h7⟩ := h2 _ _ h3
  cases e2
  dsimp only [Option.toList, List.cons_append, List.nil_append]
  exact v_icmp_eq (q := 4427) (q2 := 2517) hC dL_law_2514 (by decide) rfl (fun _ => v_widen (Nat.le_add_right _ _) (Nat.le_add_right _ _) (kk Θ G2 (Th.refl Θ) h7)) (fun h => absurd rfl h)
end LAWC1
