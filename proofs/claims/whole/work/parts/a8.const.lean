/-! WHAT STANDS AT THE LAW'S START. -/
def st_at : Nat → Nat → Cond → Cond
  | 0, _, c => c
  | n + 1, k, c => match c with
    | .and a b => cond (Nat.beq (k % 2) 0) (st_at n (k / 2) a) (st_at n (k / 2) b)
    | c => c
def st_pc : List (List Nat) := [[0, 2, 1, 513, 1537, 257, 769, 1793, 129, 641, 1665, 385, 1409, 897, 1921, 65], [577, 1601, 321, 833, 1857, 193, 705, 1729, 449, 1473, 961, 1985, 33, 545, 1569, 289], [801, 1825, 161, 673, 1697, 417, 1441, 929, 1953, 97, 609, 1633, 353, 865, 1889, 225], [737, 1761, 481, 1505, 993, 2017, 17, 529, 1553, 273, 785, 1809, 145, 657, 1681, 401], [1425, 913, 1937, 81, 593, 1617, 337, 849, 1873, 209, 721, 1745, 465, 1489, 977, 2001], [49, 561, 1585, 305, 817, 1841, 177, 689, 1713, 433, 1457, 945, 1969, 113, 625, 1649], [369, 881, 1905, 241, 753, 1777, 497, 1521, 1009, 2033, 9, 521, 1545, 265, 777, 1801], [137, 649, 1673, 393, 1417, 905, 1929, 73, 585, 1609, 329, 841, 1865, 201, 713, 1737], [457, 1481, 969, 1993, 41, 553, 1577, 297, 809, 1833, 169, 681, 1705, 425, 1449, 937], [1961, 105, 617, 1641, 361, 873, 1897, 233, 745, 1769, 489, 1513, 1001, 2025, 25, 537], [1561, 281, 793, 1817, 153, 665, 1689, 409, 1433, 921, 1945, 89, 601, 1625, 345, 857], [1881, 217, 729, 1753, 473, 1497, 985, 2009, 57, 569, 1593, 313, 825, 1849, 185, 697], [1721, 441, 1465, 953, 1977, 121, 633, 1657, 377, 1401, 889, 1913, 249, 761, 1785, 505], [1529, 1017, 2041, 5, 517, 1541, 261, 773, 1797, 133, 645, 1669, 389, 1413, 901, 1925], [69, 581, 1605, 325, 837, 1861, 197, 709, 1733, 453, 1477, 965, 1989, 37, 549, 1573], [293, 805, 1829, 165, 677, 1701, 421, 1445, 933, 1957, 101, 613, 1637, 357, 869, 1893], [229, 741, 1765, 485, 1509, 997, 2021, 21, 533, 1557, 277, 789, 1813, 149, 661, 1685], [405, 1429, 917, 1941, 85, 597, 1621, 341, 853, 1877, 213, 725, 1749, 469, 1493, 981], [2005, 53, 565, 1589, 309, 821, 1845, 181, 693, 1717, 437, 1461, 949, 1973, 117, 629], [1653, 373, 885, 1909, 245, 757, 1781, 501, 1525, 1013, 2037, 13, 525, 1549, 269, 781], [1805, 141, 653, 1677, 397, 1421, 909, 1933, 77, 589, 1613, 333, 845, 1869, 205, 717], [1741, 461, 1485, 973, 1997, 45, 557, 1581, 301, 813, 1837, 173, 685, 1709, 429, 1453], [941, 1965, 109, 621, 1645, 365, 877, 1901, 237, 749, 1773, 493, 1517, 1005, 2029, 29], [541, 1565, 285, 797, 1821, 157, 669, 1693, 413, 1437, 925, 1949, 93, 605, 1629, 349], [861, 1885, 221, 733, 1757, 477, 1501, 989, 2013, 61, 573, 1597, 317, 829, 1853, 189], [701, 1725, 445, 1469, 957, 1981, 125, 637, 1661, 381, 1405, 893, 1917, 253, 765, 1789], [509, 1533, 1021, 2045, 3, 515, 1539, 259, 771, 1795, 131, 643, 1667, 387, 1411, 899], [1923, 67, 579, 1603, 323, 835, 1859, 195, 707, 1731, 451, 1475, 963, 1987, 35, 547], [1571, 291, 803, 1827, 163, 675, 1699, 419, 1443, 931, 1955, 99, 611, 1635, 355, 867], [1891, 227, 739, 1763, 483, 1507, 995, 2019, 19, 531, 1555, 275, 787, 1811, 147, 659], [1683, 403, 1427, 915, 1939, 83, 595, 1619, 339, 851, 1875, 211, 723, 1747, 467, 1491], [979, 2003, 51, 563, 1587, 307, 819, 1843, 179, 691, 1715, 435, 1459, 947, 1971, 115], [627, 1651, 371, 883, 1907, 243, 755, 1779, 499, 1523, 1011, 2035, 11, 523, 1547, 267], [779, 1803, 139, 651, 1675, 395, 1419, 907, 1931, 75, 587, 1611, 331, 843, 1867, 203], [715, 1739, 459, 1483, 971, 1995, 43, 555, 1579, 299, 811, 1835, 171, 683, 1707, 427], [1451, 939, 1963, 107, 619, 1643, 363, 875, 1899, 235, 747, 1771, 491, 1515, 1003, 2027], [27, 539, 1563, 283, 795, 1819, 155, 667, 1691, 411, 1435, 923, 1947, 91, 603, 1627], [347, 859, 1883, 219, 731, 1755, 475, 1499, 987, 2011, 59, 571, 1595, 315, 827, 1851], [187, 699, 1723, 443, 1467, 955, 1979, 123, 635, 1659, 379, 1403, 891, 1915, 251, 763], [1787, 507, 1531, 1019, 2043, 7, 519, 1543, 263, 775, 1799, 135, 647, 1671, 391, 1415], [903, 1927, 71, 583, 1607, 327, 839, 1863, 199, 711, 1735, 455, 1479, 967, 1991, 39], [551, 1575, 295, 807, 1831, 167, 679, 1703, 423, 1447, 935, 1959, 103, 615, 1639, 359], [871, 1895, 231, 743, 1767, 487, 1511, 999, 2023, 23, 535, 1559, 279, 791, 1815, 151], [663, 1687, 407, 1431, 919, 1943, 87, 599, 1623, 343, 855, 1879, 215, 727, 1751, 471], [1495, 983, 2007, 55, 567, 1591, 311, 823, 1847, 183, 695, 1719, 439, 1463, 951, 1975], [119, 631, 1655, 375, 887, 1911, 247, 759, 1783, 503, 1527, 1015, 2039, 15, 527, 1551], [271, 783, 1807, 143, 655, 1679, 399, 1423, 911, 1935, 79, 591, 1615, 335, 847, 1871], [207, 719, 1743, 463, 1487, 975, 1999, 47, 559, 1583, 303, 815, 1839, 175, 687, 1711], [431, 1455, 943, 1967, 111, 623, 1647, 367, 879, 1903, 239, 751, 1775, 495, 1519, 1007], [2031, 31, 543, 1567, 287, 799, 1823, 159, 671, 1695, 415, 1439, 927, 1951, 95, 607], [1631, 351, 863, 1887, 223, 735, 1759, 479, 1503, 991, 2015, 63, 575, 1599, 319, 831], [1855, 191, 703, 1727, 447, 1471, 959, 1983, 127, 639, 1663, 383, 1407, 895, 1919, 255], [767, 1791, 511, 1535, 1023, 2047]]
def st_fw (i : Nat) : Cond := st_at 24 (am_get st_pc i 0) (Jvm.Cond.and given_1 narrow_1)
theorem st_at_ok {args : Array Value} {s : State} : ∀ (n k : Nat) (c : Cond), c.before args s = true → (st_at n k c).before args s = true
  | 0, _, c, h => h
  | n + 1, k, c, h => by
    unfold st_at
    split
    · rename_i a b
      rw [Cond.before_and, Bool.and_eq_true] at h
      cases Nat.beq (k % 2) 0
      · exact st_at_ok n _ _ h.2
      · exact st_at_ok n _ _ h.1
    · exact h
def st_on : List String := ["LD", "LDN", "ST", "STN", "S", "R", "AND", "ANDN", "OR", "ORN", "XOR", "XORN", "ADD", "SUB", "MUL", "DIV", "MOD", "GT", "GE", "EQ", "NE", "LE", "LT", "CLOSE", "NOT", "JMP", "JMPC", "JMPCN", "RET", "RETC", "RETCN", "TON", "TOF", "TP", "CTU", "CTD", "CLR", "RISE", "FALL", "STEP", "GO"]
def st_ox : List Nat := [125, 130, 135, 140, 120, 145, 150, 155, 160, 165, 170, 175, 180, 185, 190, 115, 195, 200, 205, 210, 215, 220, 225, 230, 235, 240, 245, 250, 255, 260, 265, 270, 275, 280, 285, 290, 295, 300, 305, 310, 315]
def st_so : List (String × Nat) := [("ScanChart$Op", 159), ("ScanChart$Op", 163), ("ScanChart$Op", 164), ("ScanChart$Op", 165), ("ScanChart$Op", 166), ("ScanChart$Op", 167), ("ScanChart$Op", 168), ("ScanChart$Op", 169), ("ScanChart$Op", 170), ("ScanChart$Op", 171), ("ScanChart$Op", 172), ("ScanChart$Op", 173), ("ScanChart$Op", 174), ("ScanChart$Op", 175), ("ScanChart$Op", 176), ("ScanChart$Op", 177), ("ScanChart$Op", 178), ("ScanChart$Op", 179), ("ScanChart$Op", 180), ("ScanChart$Op", 181), ("ScanChart$Op", 182), ("ScanChart$Op", 183), ("ScanChart$Op", 184), ("ScanChart$Op", 186), ("ScanChart$Op", 188), ("ScanChart$Op", 189), ("ScanChart$Op", 190), ("ScanChart$Op", 191), ("ScanChart$Op", 192), ("ScanChart$Op", 193), ("ScanChart$Op", 194), ("ScanChart$Op", 195), ("ScanChart$Op", 196), ("ScanChart$Op", 197), ("ScanChart$Op", 198), ("ScanChart$Op", 199), ("ScanChart$Op", 200), ("ScanChart$Op", 201), ("ScanChart$Op", 202), ("ScanChart$Op", 203), ("ScanChart$Op", 204), ("ScanChart$Reader", 186), ("ScanChart$Reader", 193), ("ScanChart$Reader", 195), ("ScanChart$Reader", 227), ("ScanChart$Reader", 240), ("ScanChart$Reader", 242), ("ScanChart$Reader", 244), ("ScanChart", 36), ("ScanChart", 73), ("ScanChart", 81), ("ScanChart", 90), ("ScanChart", 99), ("ScanChart", 119), ("ScanChart", 121)]
def st_sx : List Nat := [566, 572, 579, 585, 560, 592, 598, 605, 613, 619, 626, 633, 641, 648, 655, 553, 662, 669, 675, 681, 687, 693, 699, 705, 710, 717, 724, 732, 741, 748, 756, 765, 772, 779, 785, 792, 799, 806, 814, 822, 830, 361, 374, 380, 386, 342, 348, 354, 401, 420, 440, 469, 490, 512, 531]
def st_tO (i : Nat) : Term := .static "ScanChart$Op" (st_on.getD i "") "LScanChart$Op;"
def st_tS (i : Nat) : Term := .string (st_so.getD i ("", 0)).1 (st_so.getD i ("", 0)).2
def st_tB (i : Nat) : Term := .field (st_tS i) "java/lang/String" "value" "[B"
def st_tA (q : Nat) : Term := cond (Nat.beq q 4001) (.static "ScanChart" "OPS" "[LScanChart$Op;") (cond (Nat.beq q 4002) (.static "ScanChart" "RANGES" "[I") (cond (Nat.beq q 4003) (.static "ScanChart$1" "$SwitchMap$ScanChart$Op" "[I") (cond (Nat.beq q 4500) (.static "jdk/internal/util/Preconditions" "SIOOBE_FORMATTER" "Ljava/util/function/BiFunction;") (.arg 0))))
def st_tm (q : Nat) : Term := cond (Nat.ble q 2000) (st_tO (q - 1001)) (cond (Nat.ble q 3000) (st_tS (q - 2001)) (cond (Nat.ble q 4000) (st_tB (q - 3001)) (st_tA q)))
def st_vr (v : Option Value) : Option Nat := match v with
  | some (.ref a) => some a
  | _ => none
def st_ad (args : Array Value) (s : State) (q : Nat) : Option Nat := cond (Nat.ble q 1000) none (st_vr ((st_tm q).eval args s none [] s))
theorem st_adE {args : Array Value} {s : State} {q a : Nat} (hq : 1000 < q) (h : (st_tm q).eval args s none [] s = some (.ref a)) : st_ad args s q = some a := by
  unfold st_ad
  rw [ble_f hq, h]
  rfl
theorem st_flw {args : Array Value} {s : State} (h : (Jvm.Cond.and given_1 narrow_1).before args s = true) (i : Nat) {w : Cond} (e : st_fw i = w) : w.before args s = true := e ▸ st_at_ok 24 _ _ h
theorem st_x1 : (List.range 41).all (fun i => decide (st_fw (st_ox.getD i 0) = .exactly (st_tO i) "ScanChart$Op")) = true := by decide +kernel
theorem st_x2 : (List.range 41).all (fun i => decide (st_fw (st_ox.getD i 0 + 1) = .eq (.field (st_tO i) "java/lang/Enum" "ordinal" "I") (.int (am_cI (1001 + i) 3)))) = true := by decide +kernel
theorem st_x3 : (List.range 41).all (fun i => decide (st_fw (st_ox.getD i 0 + 2) = .eq (.field (st_tO i) "ScanChart$Op" "spelling" "Ljava/lang/String;") (st_tS (am_cR (1001 + i) 0 - 2001)) ∧ 2000 < am_cR (1001 + i) 0 ∧ am_cR (1001 + i) 0 ≤ 2055)) = true := by decide +kernel
theorem st_x4 : (List.range 41).all (fun i => decide (st_fw (st_ox.getD i 0 + 3) = .eq (.field (st_tO i) "ScanChart$Op" "form" "I") (.int (am_cI (1001 + i) 1)))) = true := by decide +kernel
theorem st_x5 : (List.range 41).all (fun i => decide (st_fw (st_ox.getD i 0 + 4) = .eq (.field (st_tO i) "ScanChart$Op" "mode" "I") (.int (am_cI (1001 + i) 2)))) = true := by decide +kernel
theorem st_x6 : (List.range 41).all (fun i => decide (st_fw (9 + i) = .eq (.elem (.static "ScanChart" "OPS" "[LScanChart$Op;") (.int (Int32.ofNat i))) (st_tO i))) = true := by decide +kernel
theorem st_x7 : (List.range 41).all (fun i => decide (am_cI (1001 + i) 3 = Int32.ofNat i)) = true := by decide +kernel
theorem st_y1 : (List.range 55).all (fun i => decide (st_fw (st_sx.getD i 0) = .exactly (st_tS i) "java/lang/String")) = true := by decide +kernel
theorem st_y2 : (List.range 55).all (fun i => decide (st_fw (st_sx.getD i 0 + 1) = .eq (.field (st_tS i) "java/lang/String" "coder" "B") (.int 0))) = true := by decide +kernel
theorem st_y3 : (List.range 55).all (fun i => decide (st_fw (st_sx.getD i 0 + 2) = .arrayOf (st_tB i) .byte)) = true := by decide +kernel
theorem st_y4 : (List.range 55).all (fun i => decide (st_fw (st_sx.getD i 0 + 3) = .eq (.length (st_tB i)) (.int (Int32.ofNat (am_get am_blen i 0))) ∧ am_get am_blen i 0 < 2 ^ 31)) = true := by decide +kernel
theorem st_y5 : (List.range 55).all (fun i => (List.range (am_get am_blen i 0)).all (fun j => decide (st_fw (st_sx.getD i 0 + 4 + j) = .eq (.elem (st_tB i) (.int (Int32.ofNat j))) (.int (am_cI (3001 + i) j))))) = true := by decide +kernel
theorem st_z1 : (List.range 11).all (fun i => decide (st_fw (58 + i) = .eq (.elem (.static "ScanChart" "RANGES" "[I") (.int (Int32.ofNat i))) (.int (am_cI 4002 i)))) = true := by decide +kernel
theorem st_z2 : (List.range 41).all (fun i => decide (st_fw (74 + i) = .eq (.elem (.static "ScanChart$1" "$SwitchMap$ScanChart$Op" "[I") (.int (Int32.ofNat i))) (.int (am_cI 4003 i)))) = true := by decide +kernel
theorem st_kinds (L q : Nat) : (q ≤ 1000 ∧ am_S0 L q = (0, 0)) ∨ (1000 < q ∧ q ≤ 1041 ∧ am_S0 L q = (30, 0)) ∨ (2000 < q ∧ q ≤ 2055 ∧ am_S0 L q = (31, 0)) ∨ (3000 < q ∧ q ≤ 3055 ∧ am_S0 L q = (27, am_get am_blen (q - 3001) 0)) ∨ (q = 4001 ∧ am_S0 L q = (25, 41)) ∨ (q = 4600 ∧ am_S0 L q = (24, L)) ∨ (q = 4002 ∧ am_S0 L q = (26, 11)) ∨ (q = 4003 ∧ am_S0 L q = (26, 41)) ∨ (1000 < q ∧ am_S0 L q = (0, 0)) := by
  by_cases a1 : q = 4001
  · subst a1; exact Or.inr (Or.inr (Or.inr (Or.inr (Or.inl ⟨rfl, rfl⟩))))
  by_cases a2 : q = 4600
  · subst a2; exact Or.inr (Or.inr (Or.inr (Or.inr (Or.inr (Or.inl ⟨rfl, rfl⟩)))))
  by_cases a3 : q = 4002
  · subst a3; exact Or.inr (Or.inr (Or.inr (Or.inr (Or.inr (Or.inr (Or.inl ⟨rfl, rfl⟩))))))
  by_cases a4 : q = 4003
  · subst a4; exact Or.inr (Or.inr (Or.inr (Or.inr (Or.inr (Or.inr (Or.inr (Or.inl ⟨rfl, rfl⟩)))))))
  have zero : 1000 < q → am_S0 L q = (0, 0) → _ := fun u v => (Or.inr (Or.inr (Or.inr (Or.inr (Or.inr (Or.inr (Or.inr (Or.inr ⟨u, v⟩))))))) : (q ≤ 1000 ∧ am_S0 L q = (0, 0)) ∨ (1000 < q ∧ q ≤ 1041 ∧ am_S0 L q = (30, 0)) ∨ (2000 < q ∧ q ≤ 2055 ∧ am_S0 L q = (31, 0)) ∨ (3000 < q ∧ q ≤ 3055 ∧ am_S0 L q = (27, am_get am_blen (q - 3001) 0)) ∨ (q = 4001 ∧ am_S0 L q = (25, 41)) ∨ (q = 4600 ∧ am_S0 L q = (24, L)) ∨ (q = 4002 ∧ am_S0 L q = (26, 11)) ∨ (q = 4003 ∧ am_S0 L q = (26, 41)) ∨ (1000 < q ∧ am_S0 L q = (0, 0)))
  have bt : ∀ {n : Nat}, q ≤ n → Nat.ble q n = true := fun h => Nat.ble_eq_true_of_le h
  have bf : ∀ {n : Nat}, ¬ q ≤ n → Nat.ble q n = false := fun h => ble_f (by omega)
  by_cases b1 : q ≤ 1000
  · exact Or.inl ⟨b1, by unfold am_S0; rw [bt b1]; rfl⟩
  by_cases b2 : q ≤ 1041
  · exact Or.inr (Or.inl ⟨by omega, b2, by unfold am_S0; rw [bf b1, bt b2]; rfl⟩)
  by_cases b3 : q ≤ 2000
  · exact zero (by omega) (by unfold am_S0; rw [bf b1, bf b2, bt b3]; rfl)
  by_cases b4 : q ≤ 2055
  · exact Or.inr (Or.inr (Or.inl ⟨by omega, b4, by unfold am_S0; rw [bf b1, bf b2, bf b3, bt b4]; rfl⟩))
  by_cases b5 : q ≤ 3000
  · exact zero (by omega) (by unfold am_S0; rw [bf b1, bf b2, bf b3, bf b4, bt b5]; rfl)
  by_cases b6 : q ≤ 3055
  · exact Or.inr (Or.inr (Or.inr (Or.inl ⟨by omega, b6, by unfold am_S0; rw [bf b1, bf b2, bf b3, bf b4, bf b5, bt b6]; rfl⟩)))
  by_cases b7 : q ≤ 4000
  · exact zero (by omega) (by unfold am_S0; rw [bf b1, bf b2, bf b3, bf b4, bf b5, bf b6, bt b7]; rfl)
  have b8 : ¬ q ≤ 4003 := by omega
  exact zero (by omega) (by unfold am_S0; rw [bf b1, bf b2, bf b3, bf b4, bf b5, bf b6, bf b7, beq_f a1, beq_f a2, bf b8]; rfl)
theorem st_tmO {i : Nat} (h : i < 41) : st_tm (1001 + i) = st_tO i := by
  unfold st_tm
  rw [Nat.ble_eq_true_of_le (by omega), show 1001 + i - 1001 = i by omega]
  rfl
theorem st_tmS {i : Nat} (h : i < 55) : st_tm (2001 + i) = st_tS i := by
  unfold st_tm
  rw [ble_f (by omega), Nat.ble_eq_true_of_le (by omega), show 2001 + i - 2001 = i by omega]
  rfl
theorem st_tmB {i : Nat} (h : i < 55) : st_tm (3001 + i) = st_tB i := by
  unfold st_tm
  rw [ble_f (by omega), ble_f (by omega), Nat.ble_eq_true_of_le (by omega), show 3001 + i - 3001 = i by omega]
  rfl
