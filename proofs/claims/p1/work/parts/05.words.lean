/-! ===== the words that every method is given; that the tables are the machine's ===== -/
def mi_lk {α : Type} : List (Nat × α) → Nat → Option α
  | [], _ => none
  | q :: l, k => if q.1 == k then some q.2 else mi_lk l k
theorem mi_lk_mem {α : Type} {k : Nat} {v : α} : ∀ {l : List (Nat × α)}, mi_lk l k = some v → (k, v) ∈ l
  | [], h => by cases h
  | q :: l, h => by
    unfold mi_lk at h
    by_cases hq : q.1 == k
    · rw [if_pos hq] at h
      cases h
      rw [← beq_iff_eq.mp hq]
      exact List.mem_cons_self
    · rw [if_neg hq] at h
      exact List.mem_cons_of_mem _ (mi_lk_mem h)
def mi_y (M : mi_M) : MethodName := M.1
def mi_bt (M : mi_M) : ByteArray := M.2.1
def mi_nL (M : mi_M) : Nat := M.2.2.1
def mi_rt (M : mi_M) : Option FieldType := M.2.2.2.1
def mi_ow (M : mi_M) : Nat := M.2.2.2.2.1
def mi_kd (M : mi_M) : Nat := M.2.2.2.2.2.1
def mi_np (M : mi_M) : Nat := M.2.2.2.2.2.2.1
def mi_cd (M : mi_M) : List (Nat × Instr × Nat) := M.2.2.2.2.2.2.2.1
def mi_th (M : mi_M) : List (Nat × Nat × Nat × Nat × Nat × Bool) := M.2.2.2.2.2.2.2.2.1
def mi_hd (M : mi_M) : List (Nat × Nat × Nat × Nat) := M.2.2.2.2.2.2.2.2.2
def mi_hw (M : mi_M) : Cond := if mi_kd M = 3 then .codeWith (mi_y M) (mi_bt M) (mi_nL M) (mi_rt M) (mi_hd M) else .code (mi_y M) (mi_bt M) (mi_nL M) (mi_rt M)
def mi_mw (M : mi_M) : List Cond := mi_hw M :: ((if mi_kd M = 0 ∨ mi_kd M = 3 then [.static (mi_y M)] else [.instanceMethod (mi_y M)]) ++ ((if mi_kd M = 1 then [.selects (mi_y M).cls (mi_y M) (mi_y M)] else []) ++ [.initialized (mi_y M).cls]))
def mi_kw (q : vw_C) : List Cond := u_ws q.1 q.2.1 q.2.2 ++ [.instantiable q.1 q.2.2, .initialized q.1]
def mi_flw (o : Nat) (q : Nat × Nat × Nat) : Cond := match mi_cl[q.2.1]? with
  | some x => .fieldLink (mi_on o) q.1 x.1 (x.2.1 q.2.2).2.1 (x.2.1 q.2.2).2.2.1
  | none => .tt
def mi_nfw (o : Nat) (q : Nat × Nat × Nat) : Cond := match mi_cl[q.2.1]? with
  | some x => .fieldLinkNest (mi_on o) q.1 x.1 (x.2.1 q.2.2).2.1 (x.2.1 q.2.2).2.2.1 "TypeLoom"
  | none => .tt
def mi_mlw (o : Nat) (q : Nat × Nat) : Cond := if q.2 = 1000000 then .methodLink (mi_on o) q.1 objectInit else if q.2 = 1000001 then .methodLink (mi_on o) q.1 arraycopyName else if q.2 = 1000002 then .methodLink (mi_on o) q.1 Lib.Math.max.name else if q.2 = 1000003 then .methodLink (mi_on o) q.1 Lib.Math.min.name else match mi_mt[q.2]? with
  | some M => .methodLink (mi_on o) q.1 (mi_y M)
  | none => .tt
def mi_nmw (o : Nat) (q : Nat × Nat) : Cond := match mi_mt[q.2]? with
  | some M => .methodLinkNest (mi_on o) q.1 (mi_y M) "TypeLoom"
  | none => .tt
def mi_klw (o : Nat) (q : Nat × Nat) : Cond := match mi_cl[q.2]? with
  | some x => .classLink (mi_on o) q.1 x.1
  | none => .tt
def mi_xlw (o : Nat) (q : Nat × Nat) : Cond := .classLink (mi_on o) q.1 (mi_xn q.2)
def mi_ilw (o : Nat) (q : Nat × Int32) : Cond := .constant (mi_on o) q.1 q.2
def mi_jlw (o : Nat) (q : Nat × Int64) : Cond := .constantLong (mi_on o) q.1 q.2
def mi_sfw (o : Nat) (q : Nat × Nat) : Cond := if q.2 = 0 then .fieldLink (mi_on o) q.1 "java/lang/String" "value" "[B" else if q.2 = 1 then .fieldLink (mi_on o) q.1 "java/lang/String" "coder" "B" else .tt
def mi_glw (o : Nat) (q : Nat × Nat) : Cond := match mi_st_[q.2]? with
  | some x => .fieldLink (mi_on o) q.1 x.1 x.2.1 x.2.2
  | none => .tt
def mi_lw (o : Nat) : List Cond := (mi_fl o).map (mi_flw o) ++ ((mi_ml o).map (mi_mlw o) ++ ((mi_kl o).map (mi_klw o) ++ ((mi_xl o).map (mi_xlw o) ++ ((mi_il o).map (mi_ilw o) ++ ((mi_jl o).map (mi_jlw o) ++ ((mi_sf o).map (mi_sfw o) ++ (mi_gl o).map (mi_glw o)))))))
def mi_n3 : List Cond := [.arrayClass .int, .arrayClass .long, .arrayClass .byte, .arrayClass .boolean, .code objectInit ⟨#[0xb1]⟩ 1 none, .instanceMethod objectInit, .initialized "java/lang/IllegalStateException", .initialized "java/lang/IllegalArgumentException", .initialized "java/lang/IndexOutOfBoundsException", .initialized "java/lang/Math", .static Lib.Math.max.name, .code Lib.Math.max.name Lib.Math.max.code 2 (some .int), .static Lib.Math.min.name, .code Lib.Math.min.name Lib.Math.min.code 2 (some .int)]
def mi_xc : List String := ["java/lang/RuntimeException", "java/lang/Exception"]
def mi_no : Nat := 17
/-- the exceptions that are thrown, each with its constructor's link -/
def mi_xs : List (Nat × Nat) := [(0, 90), (1, 101), (2, 135)]
def mi_n4 : List Cond := mi_xs.flatMap (fun q => (vx_atS "TypeLoom" q.2 (mi_xn q.1) mi_xc).filter goodWord)
def mi_need : List Cond := mi_cl.flatMap mi_kw ++ (mi_mt.flatMap mi_mw ++ ((List.range mi_no).flatMap mi_lw ++ (mi_n3 ++ mi_n4)))
/-- words that warmer tables keep, but that are no words of a method -/
def mi_bad : List Cond := (List.range mi_no).flatMap (fun o => (mi_nf o).map (mi_nfw o) ++ (mi_nm o).map (mi_nmw o)) ++ mi_xs.flatMap (fun q => (vx_atS "TypeLoom" q.2 (mi_xn q.1) mi_xc).filter (fun w => !goodWord w))
set_option maxRecDepth 100000 in
theorem mi_g0 : GoodIn lw_tbl (mi_cl.flatMap mi_kw) := goodIn_r _ [589, 591, 593, 595, 597, 599, 601, 603, 605, 607, 609, 611, 512, 195, 225, 227, 216, 182, 554, 556, 558, 560, 562, 564, 566, 568, 570, 572, 574, 538, 197, 430, 432, 434, 436, 438, 440, 442, 444, 446, 448, 450, 452, 454, 456, 458, 357, 189, 502, 504, 506, 508, 493, 194, 527, 529, 531, 533, 518, 196, 475, 477, 479, 481, 483, 485, 487, 489, 462, 193, 294, 296, 298, 300, 302, 304, 306, 308, 232, 183, 331, 333, 335, 337, 339, 341, 343, 345, 347, 349, 351, 353, 314, 188, 627, 629, 631, 633, 635, 637, 639, 615, 198, 653, 655, 657, 659, 661, 663, 665, 667, 669, 671, 673, 208, 181, 1828, 1830, 1832, 1834, 1836, 1838, 1840, 1842, 1844, 1846, 1848, 1850, 1852, 1854, 1856, 1858, 1860, 1862, 1864, 1866, 1868, 1870, 1872, 1874, 1876, 1878, 1880, 1882, 1884, 1886, 1888, 1890, 1892, 1894, 1896, 1898, 1900, 1902, 1904, 1906, 1908, 1910, 1912, 1914, 1916, 1918, 1920, 1922, 1924, 1926, 1928, 1930, 1932, 1934, 1936, 1938, 1940, 1942, 1944, 1946, 1948, 1950, 1952, 1954, 1956, 1958, 1960, 1962, 1964, 1966, 1968, 1708, 199] (by decide +kernel) (by decide +kernel)
set_option maxRecDepth 100000 in
theorem mi_g1_0 : GoodIn lw_tbl (List.flatMap mi_mw [mi_M0, mi_M1, mi_M2, mi_M3, mi_M4, mi_M5, mi_M6, mi_M7, mi_M8, mi_M9]) := goodIn_r _ [211, 210, 181, 1475, 1474, 85, 181, 1574, 1573, 87, 181, 1343, 1341, 1342, 181, 1670, 1668, 1669, 181, 679, 677, 678, 181, 1606, 1604, 1605, 181, 1693, 1691, 1692, 181, 1469, 1467, 1468, 181, 1339, 1337, 1338, 181] rfl (by decide +kernel)
set_option maxRecDepth 100000 in
theorem mi_g1_1 : GoodIn lw_tbl (List.flatMap mi_mw [mi_M10, mi_M11, mi_M12, mi_M13, mi_M14, mi_M15, mi_M16, mi_M17, mi_M18, mi_M19]) := goodIn_r _ [1503, 1501, 1502, 181, 683, 682, 0, 181, 1450, 1448, 1449, 181, 1678, 1676, 1677, 181, 1702, 1700, 1701, 181, 1582, 1580, 1581, 181, 1686, 1684, 1685, 181, 1629, 1627, 1628, 181, 1657, 1655, 1656, 181, 1639, 1637, 1638, 181] rfl (by decide +kernel)
set_option maxRecDepth 100000 in
theorem mi_g1_2 : GoodIn lw_tbl (List.flatMap mi_mw [mi_M20, mi_M21, mi_M22, mi_M23, mi_M24, mi_M25, mi_M26, mi_M27, mi_M28, mi_M29]) := goodIn_r _ [515, 514, 195, 977, 976, 39, 195, 973, 971, 972, 195, 219, 218, 182, 702, 700, 701, 182, 832, 830, 831, 182, 861, 859, 860, 182, 541, 540, 197, 360, 359, 189, 1169, 1167, 1168, 189] rfl (by decide +kernel)
set_option maxRecDepth 100000 in
theorem mi_g1_3 : GoodIn lw_tbl (List.flatMap mi_mw [mi_M30, mi_M31, mi_M32, mi_M33, mi_M34, mi_M35, mi_M36, mi_M37, mi_M38, mi_M39]) := goodIn_r _ [691, 689, 690, 189, 1071, 1069, 1070, 189, 1643, 1641, 1642, 189, 1483, 1481, 1482, 189, 1479, 1477, 1478, 189, 365, 364, 189, 496, 495, 194, 957, 956, 35, 194, 953, 952, 34, 194, 893, 892, 23, 194] rfl (by decide +kernel)
set_option maxRecDepth 100000 in
theorem mi_g1_4 : GoodIn lw_tbl (List.flatMap mi_mw [mi_M40, mi_M41, mi_M42, mi_M43, mi_M44, mi_M45, mi_M46, mi_M47, mi_M48, mi_M49]) := goodIn_r _ [853, 852, 15, 194, 824, 823, 10, 194, 828, 827, 11, 194, 949, 948, 33, 194, 815, 813, 814, 194, 1347, 1345, 1346, 194, 941, 940, 31, 194, 819, 818, 9, 194, 969, 968, 38, 194, 945, 944, 32, 194] rfl (by decide +kernel)
set_option maxRecDepth 100000 in
theorem mi_g1_5 : GoodIn lw_tbl (List.flatMap mi_mw [mi_M50, mi_M51, mi_M52, mi_M53, mi_M54, mi_M55, mi_M56, mi_M57, mi_M58, mi_M59]) := goodIn_r _ [849, 848, 14, 194, 521, 520, 196, 981, 979, 980, 196, 465, 464, 193, 687, 685, 686, 193, 1661, 1659, 1660, 193, 933, 931, 932, 193, 235, 234, 183, 726, 725, 4, 183, 718, 717, 2, 183] rfl (by decide +kernel)
set_option maxRecDepth 100000 in
theorem mi_g1_6 : GoodIn lw_tbl (List.flatMap mi_mw [mi_M60, mi_M61, mi_M62, mi_M63, mi_M64, mi_M65, mi_M66, mi_M67, mi_M68, mi_M69]) := goodIn_r _ [811, 809, 810, 183, 714, 713, 1, 183, 857, 855, 856, 183, 706, 704, 705, 183, 722, 721, 3, 183, 317, 316, 188, 695, 693, 694, 188, 1446, 1444, 1445, 188, 413, 411, 412, 188, 401, 399, 400, 188] rfl (by decide +kernel)
set_option maxRecDepth 100000 in
theorem mi_g1_7 : GoodIn lw_tbl (List.flatMap mi_mw [mi_M70, mi_M71, mi_M72, mi_M73, mi_M74, mi_M75, mi_M76, mi_M77, mi_M78, mi_M79]) := goodIn_r _ [409, 407, 408, 188, 377, 375, 376, 188, 373, 371, 372, 188, 405, 403, 404, 188, 618, 617, 198, 1487, 1485, 1486, 198, 1666, 1665, 180, 1601, 1600, 180, 1689, 1688, 180, 1498, 1497, 180] rfl (by decide +kernel)
set_option maxRecDepth 100000 in
theorem mi_g1_8 : GoodIn lw_tbl (List.flatMap mi_mw [mi_M80, mi_M81, mi_M82, mi_M83, mi_M84, mi_M85, mi_M86, mi_M87, mi_M88, mi_M89]) := goodIn_r _ [1674, 1673, 180, 1698, 1697, 180, 1577, 1576, 180, 1682, 1681, 180, 1625, 1624, 180, 1653, 1652, 180, 1635, 1634, 180, 1711, 1710, 199, 2416, 2414, 2415, 199, 2105, 2104, 115, 199] rfl (by decide +kernel)
set_option maxRecDepth 100000 in
theorem mi_g1_9 : GoodIn lw_tbl (List.flatMap mi_mw [mi_M90, mi_M91, mi_M92, mi_M93, mi_M94, mi_M95, mi_M96, mi_M97, mi_M98, mi_M99]) := goodIn_r _ [2376, 2374, 2375, 199, 2101, 2100, 114, 199, 1990, 1988, 1989, 199, 2321, 2319, 2320, 199, 2325, 2324, 166, 199, 2400, 2398, 2399, 199, 2424, 2422, 2423, 199, 2317, 2315, 2316, 199, 2076, 2075, 110, 199, 1978, 1976, 1977, 199] rfl (by decide +kernel)
set_option maxRecDepth 100000 in
theorem mi_g1_10 : GoodIn lw_tbl (List.flatMap mi_mw [mi_M100, mi_M101, mi_M102, mi_M103, mi_M104, mi_M105, mi_M106, mi_M107, mi_M108, mi_M109]) := goodIn_r _ [1750, 1749, 91, 199, 1744, 1743, 90, 199, 2029, 2028, 101, 199, 2109, 2108, 116, 199, 2333, 2332, 167, 199, 1734, 1733, 199, 2001, 2000, 199, 1737, 1736, 199, 2041, 2040, 104, 199, 1740, 1739, 199] rfl (by decide +kernel)
set_option maxRecDepth 100000 in
theorem mi_g1_11 : GoodIn lw_tbl (List.flatMap mi_mw [mi_M110, mi_M111, mi_M112, mi_M113, mi_M114, mi_M115, mi_M116, mi_M117, mi_M118, mi_M119]) := goodIn_r _ [2016, 2015, 98, 199, 1717, 1716, 88, 199, 1731, 1730, 199, 2420, 2418, 2419, 199, 2380, 2378, 2379, 199, 2412, 2410, 2411, 199, 1725, 1724, 199, 1982, 1981, 93, 199, 1756, 1755, 92, 199, 2097, 2096, 113, 199] rfl (by decide +kernel)
set_option maxRecDepth 100000 in
theorem mi_g1_12 : GoodIn lw_tbl (List.flatMap mi_mw [mi_M120, mi_M121, mi_M122, mi_M123, mi_M124, mi_M125, mi_M126, mi_M127, mi_M128, mi_M129]) := goodIn_r _ [2012, 2011, 97, 199, 1994, 1993, 94, 199, 2025, 2024, 100, 199, 2093, 2092, 112, 199, 2021, 2020, 99, 199, 1998, 1997, 95, 199, 1974, 1972, 1973, 199, 1986, 1984, 1985, 199, 1721, 1720, 89, 199, 2396, 2394, 2395, 199] rfl (by decide +kernel)
set_option maxRecDepth 100000 in
theorem mi_g1_13 : GoodIn lw_tbl (List.flatMap mi_mw [mi_M130, mi_M131, mi_M132, mi_M133, mi_M134, mi_M135, mi_M136, mi_M137, mi_M138, mi_M139]) := goodIn_r _ [2329, 2327, 2328, 199, 2372, 2370, 2371, 199, 2368, 2366, 2367, 199, 2119, 2118, 117, 199, 251, 249, 250, 184, 261, 260, 184, 245, 243, 244, 184, 255, 253, 254, 184, 241, 239, 240, 184, 258, 257, 185] rfl (by decide +kernel)
set_option maxRecDepth 100000 in
theorem mi_g1_14 : GoodIn lw_tbl (List.flatMap mi_mw [mi_M140, mi_M141]) := goodIn_r _ [698, 697, 190, 266, 265, 186] rfl (by decide +kernel)
theorem mi_g1 : GoodIn lw_tbl (mi_mt.flatMap mi_mw) := by
  have e : mi_mt = [mi_M0, mi_M1, mi_M2, mi_M3, mi_M4, mi_M5, mi_M6, mi_M7, mi_M8, mi_M9] ++ ([mi_M10, mi_M11, mi_M12, mi_M13, mi_M14, mi_M15, mi_M16, mi_M17, mi_M18, mi_M19] ++ ([mi_M20, mi_M21, mi_M22, mi_M23, mi_M24, mi_M25, mi_M26, mi_M27, mi_M28, mi_M29] ++ ([mi_M30, mi_M31, mi_M32, mi_M33, mi_M34, mi_M35, mi_M36, mi_M37, mi_M38, mi_M39] ++ ([mi_M40, mi_M41, mi_M42, mi_M43, mi_M44, mi_M45, mi_M46, mi_M47, mi_M48, mi_M49] ++ ([mi_M50, mi_M51, mi_M52, mi_M53, mi_M54, mi_M55, mi_M56, mi_M57, mi_M58, mi_M59] ++ ([mi_M60, mi_M61, mi_M62, mi_M63, mi_M64, mi_M65, mi_M66, mi_M67, mi_M68, mi_M69] ++ ([mi_M70, mi_M71, mi_M72, mi_M73, mi_M74, mi_M75, mi_M76, mi_M77, mi_M78, mi_M79] ++ ([mi_M80, mi_M81, mi_M82, mi_M83, mi_M84, mi_M85, mi_M86, mi_M87, mi_M88, mi_M89] ++ ([mi_M90, mi_M91, mi_M92, mi_M93, mi_M94, mi_M95, mi_M96, mi_M97, mi_M98, mi_M99] ++ ([mi_M100, mi_M101, mi_M102, mi_M103, mi_M104, mi_M105, mi_M106, mi_M107, mi_M108, mi_M109] ++ ([mi_M110, mi_M111, mi_M112, mi_M113, mi_M114, mi_M115, mi_M116, mi_M117, mi_M118, mi_M119] ++ ([mi_M120, mi_M121, mi_M122, mi_M123, mi_M124, mi_M125, mi_M126, mi_M127, mi_M128, mi_M129] ++ ([mi_M130, mi_M131, mi_M132, mi_M133, mi_M134, mi_M135, mi_M136, mi_M137, mi_M138, mi_M139] ++ ([mi_M140, mi_M141])))))))))))))) := rfl
  rw [e]
  intro w hw
  obtain ⟨M, hM, hw⟩ := List.mem_flatMap.mp hw
  rcases List.mem_append.mp hM with hM | hM
  · exact mi_g1_0 w (List.mem_flatMap.mpr ⟨M, hM, hw⟩)
  rcases List.mem_append.mp hM with hM | hM
  · exact mi_g1_1 w (List.mem_flatMap.mpr ⟨M, hM, hw⟩)
  rcases List.mem_append.mp hM with hM | hM
  · exact mi_g1_2 w (List.mem_flatMap.mpr ⟨M, hM, hw⟩)
  rcases List.mem_append.mp hM with hM | hM
  · exact mi_g1_3 w (List.mem_flatMap.mpr ⟨M, hM, hw⟩)
  rcases List.mem_append.mp hM with hM | hM
  · exact mi_g1_4 w (List.mem_flatMap.mpr ⟨M, hM, hw⟩)
  rcases List.mem_append.mp hM with hM | hM
  · exact mi_g1_5 w (List.mem_flatMap.mpr ⟨M, hM, hw⟩)
  rcases List.mem_append.mp hM with hM | hM
  · exact mi_g1_6 w (List.mem_flatMap.mpr ⟨M, hM, hw⟩)
  rcases List.mem_append.mp hM with hM | hM
  · exact mi_g1_7 w (List.mem_flatMap.mpr ⟨M, hM, hw⟩)
  rcases List.mem_append.mp hM with hM | hM
  · exact mi_g1_8 w (List.mem_flatMap.mpr ⟨M, hM, hw⟩)
  rcases List.mem_append.mp hM with hM | hM
  · exact mi_g1_9 w (List.mem_flatMap.mpr ⟨M, hM, hw⟩)
  rcases List.mem_append.mp hM with hM | hM
  · exact mi_g1_10 w (List.mem_flatMap.mpr ⟨M, hM, hw⟩)
  rcases List.mem_append.mp hM with hM | hM
  · exact mi_g1_11 w (List.mem_flatMap.mpr ⟨M, hM, hw⟩)
  rcases List.mem_append.mp hM with hM | hM
  · exact mi_g1_12 w (List.mem_flatMap.mpr ⟨M, hM, hw⟩)
  rcases List.mem_append.mp hM with hM | hM
  · exact mi_g1_13 w (List.mem_flatMap.mpr ⟨M, hM, hw⟩)
  exact mi_g1_14 w (List.mem_flatMap.mpr ⟨M, hM, hw⟩)
set_option maxRecDepth 100000 in
theorem mi_g2 : GoodIn lw_tbl ((List.range mi_no).flatMap mi_lw) := goodIn_r _ [582, 577, 579, 580, 583, 578, 581, 584, 586, 587, 516, 539, 974, 982, 983, 978, 517, 537, 223, 221, 220, 547, 548, 549, 543, 544, 545, 546, 542, 416, 417, 418, 419, 420, 421, 422, 423, 415, 424, 425, 426, 427, 428, 429, 361, 363, 370, 395, 398, 402, 406, 410, 366, 367, 692, 696, 1644, 498, 499, 500, 501, 497, 816, 821, 829, 825, 846, 890, 820, 833, 854, 858, 850, 938, 942, 946, 950, 954, 966, 523, 524, 525, 526, 522, 467, 468, 469, 470, 471, 472, 473, 474, 466, 1662, 287, 288, 289, 290, 291, 286, 292, 293, 236, 238, 248, 707, 710, 711, 719, 808, 715, 723, 319, 320, 321, 322, 323, 324, 325, 326, 327, 328, 318, 374, 378, 622, 623, 620, 621, 625, 619, 642, 643, 644, 645, 646, 647, 648, 649, 650, 651, 652, 222, 224, 212, 233, 315, 358, 494, 513, 616, 1571, 680, 699, 703, 812, 970, 1334, 1335, 1472, 1630, 1484, 1640, 1658, 1443, 1344, 1441, 1442, 1451, 684, 688, 1476, 1480, 215, 231, 313, 356, 461, 492, 511, 614, 1504, 1583, 1607, 1470, 1471, 1758, 1760, 1761, 1762, 1763, 1765, 1768, 1769, 1770, 1771, 1772, 1774, 1775, 1776, 1778, 1779, 1780, 1781, 1785, 1786, 1788, 1789, 1790, 1792, 1793, 1794, 1801, 1802, 1803, 1804, 1805, 1806, 1807, 1808, 1811, 1812, 1813, 1818, 1821, 1822, 1823, 1825, 1826, 1757, 1767, 1782, 1783, 1784, 1787, 1795, 1796, 1797, 1798, 1791, 1800, 1809, 1799, 1773, 1759, 1764, 1817, 1814, 1810, 1766, 1712, 1714, 1718, 1723, 1741, 1747, 1753, 1979, 1735, 1995, 1738, 1999, 1732, 2008, 1726, 1728, 2026, 1729, 2022, 2038, 2013, 2018, 2073, 2090, 2094, 2098, 2102, 2106, 2116, 1991, 2009, 2322, 2330, 1713, 1727, 2425, 2426, 2042, 1500, 1579, 1603, 1626, 1636, 1654, 1667, 1675, 1683, 1690, 1699, 209, 1709, 1496, 1975, 1971, 1575, 1983, 676, 1987, 1336, 2314, 1599, 2318, 1623, 2326, 1633, 2365, 1651, 2369, 1664, 2373, 1672, 2377, 1680, 2393, 1687, 2397, 1696, 2409, 1340, 2413, 1447, 2417, 1466, 2421, 207, 1707, 1499, 1578, 1602, 242, 252, 256, 264, 2428, 2429, 246, 262, 259] (by decide +kernel) (by decide +kernel)
set_option maxRecDepth 100000 in
theorem mi_g3 : GoodIn lw_tbl (mi_n3) := goodIn_r _ [312, 311, 230, 536, 214, 213, 203, 204, 206, 191, 708, 709, 390, 391] (by decide +kernel) (by decide +kernel)
theorem mi_g4_0 : ∀ w ∈ (vx_atS "TypeLoom" 90 (mi_xn 0) mi_xc).filter goodWord, w ∈ lw_tbl := by decide +kernel
theorem mi_g4_1 : ∀ w ∈ (vx_atS "TypeLoom" 101 (mi_xn 1) mi_xc).filter goodWord, w ∈ lw_tbl := by decide +kernel
theorem mi_g4_2 : ∀ w ∈ (vx_atS "TypeLoom" 135 (mi_xn 2) mi_xc).filter goodWord, w ∈ lw_tbl := by decide +kernel
theorem mi_g4 : GoodIn lw_tbl mi_n4 := by
  intro w hw
  obtain ⟨q, hq, hw⟩ := List.mem_flatMap.mp hw
  refine ⟨?_, good_of_word (List.mem_filter.mp hw).2⟩
  simp only [mi_xs, List.mem_cons, List.not_mem_nil, or_false] at hq
  rcases hq with rfl | rfl | rfl
  · exact mi_g4_0 w hw
  · exact mi_g4_1 w hw
  · exact mi_g4_2 w hw
theorem mi_gn : GoodIn lw_tbl mi_need := goodIn_app mi_g0 (goodIn_app mi_g1 (goodIn_app mi_g2 (goodIn_app mi_g3 mi_g4)))
theorem mi_gself : GoodIn mi_need mi_need := fun w h => ⟨h, (mi_gn w h).2⟩
theorem mi_in0 {w : Cond} {q : vw_C} (hq : q ∈ mi_cl) (h : w ∈ mi_kw q) : w ∈ mi_need := List.mem_append_left _ (List.mem_flatMap.mpr ⟨q, hq, h⟩)
theorem mi_in1 {w : Cond} {M : mi_M} (hq : M ∈ mi_mt) (h : w ∈ mi_mw M) : w ∈ mi_need := List.mem_append_right _ (List.mem_append_left _ (List.mem_flatMap.mpr ⟨M, hq, h⟩))
theorem mi_in2 {w : Cond} {o : Nat} (hq : o < mi_no) (h : w ∈ mi_lw o) : w ∈ mi_need := List.mem_append_right _ (List.mem_append_right _ (List.mem_append_left _ (List.mem_flatMap.mpr ⟨o, List.mem_range.mpr hq, h⟩)))
theorem mi_in3 {w : Cond} (h : w ∈ mi_n3) : w ∈ mi_need := List.mem_append_right _ (List.mem_append_right _ (List.mem_append_right _ (List.mem_append_left _ h)))
theorem mi_in4 {w : Cond} (h : w ∈ mi_n4) : w ∈ mi_need := List.mem_append_right _ (List.mem_append_right _ (List.mem_append_right _ (List.mem_append_right _ h)))
/-- a method's row, held against its class file -/
def mi_mok (M : mi_M) : Bool := plainName (mi_y M).cls && (decide ((mi_y M).cls ≠ "java/lang/invoke/MethodHandle") && (decide ((mi_y M).cls ≠ "java/lang/invoke/VarHandle") && (decide ((parseMethodDescriptor (mi_y M).desc).map (fun d => d.parameters.length) = some (mi_np M)) && (decide ((mi_y M).cls = mi_on (mi_ow M)) && (decide (mi_ow M < mi_no) && (decide (mi_nL M ≤ 20) && ((!decide (mi_kd M = 2) || decide ((mi_y M).name = "<init>")) && ((mi_cd M).all (fun q => decide (decode (mi_bt M) q.1 = .ok q.2)) && ((mi_th M).all (fun q => decide (decode (mi_bt M) q.1 = .ok (.new q.2.2.1, 3)) && (decide (decode (mi_bt M) (q.1 + 3) = .ok (.dup, 1)) && (decide (decode (mi_bt M) (q.1 + 4) = .ok (.ldc q.2.2.2.1, 2)) && (decide (decode (mi_bt M) (q.1 + 6) = .ok (.invokespecial q.2.2.2.2.1, 3)) && (decide (decode (mi_bt M) (q.1 + 9) = .ok (.athrow, 1)) && (decide ((mi_y M).cls = "TypeLoom") && (decide ((q.2.1, q.2.2.2.2.1) ∈ mi_xs) && (decide (mi_kd M < 3) && (decide (mi_lk (mi_xl (mi_ow M)) q.2.2.1 = some q.2.1) && (decide (q.2.1 < 3) && (match mi_lk (mi_sl (mi_ow M)) q.2.2.2.1 with | some i => decide (i < mi_nS) | none => false)))))))))))) && (decide (mi_kd M = 3) || decide (mi_hd M = []))))))))))
set_option maxRecDepth 100000 in
theorem mi_ok0 : ∀ M ∈ [mi_M0, mi_M1, mi_M2, mi_M3, mi_M4, mi_M5], mi_mok M = true := by decide +kernel
set_option maxRecDepth 100000 in
theorem mi_ok1 : ∀ M ∈ [mi_M6, mi_M7, mi_M8, mi_M9, mi_M10, mi_M11], mi_mok M = true := by decide +kernel
set_option maxRecDepth 100000 in
theorem mi_ok2 : ∀ M ∈ [mi_M12, mi_M13, mi_M14, mi_M15, mi_M16, mi_M17], mi_mok M = true := by decide +kernel
set_option maxRecDepth 100000 in
theorem mi_ok3 : ∀ M ∈ [mi_M18, mi_M19, mi_M20, mi_M21, mi_M22, mi_M23], mi_mok M = true := by decide +kernel
set_option maxRecDepth 100000 in
theorem mi_ok4 : ∀ M ∈ [mi_M24, mi_M25, mi_M26, mi_M27, mi_M28, mi_M29], mi_mok M = true := by decide +kernel
set_option maxRecDepth 100000 in
theorem mi_ok5 : ∀ M ∈ [mi_M30, mi_M31, mi_M32, mi_M33, mi_M34, mi_M35], mi_mok M = true := by decide +kernel
set_option maxRecDepth 100000 in
theorem mi_ok6 : ∀ M ∈ [mi_M36, mi_M37, mi_M38, mi_M39, mi_M40, mi_M41], mi_mok M = true := by decide +kernel
set_option maxRecDepth 100000 in
theorem mi_ok7 : ∀ M ∈ [mi_M42, mi_M43, mi_M44, mi_M45, mi_M46, mi_M47], mi_mok M = true := by decide +kernel
set_option maxRecDepth 100000 in
theorem mi_ok8 : ∀ M ∈ [mi_M48, mi_M49, mi_M50, mi_M51, mi_M52, mi_M53], mi_mok M = true := by decide +kernel
set_option maxRecDepth 100000 in
theorem mi_ok9 : ∀ M ∈ [mi_M54, mi_M55, mi_M56, mi_M57, mi_M58, mi_M59], mi_mok M = true := by decide +kernel
set_option maxRecDepth 100000 in
theorem mi_ok10 : ∀ M ∈ [mi_M60, mi_M61, mi_M62, mi_M63, mi_M64, mi_M65], mi_mok M = true := by decide +kernel
set_option maxRecDepth 100000 in
theorem mi_ok11 : ∀ M ∈ [mi_M66, mi_M67, mi_M68, mi_M69, mi_M70, mi_M71], mi_mok M = true := by decide +kernel
set_option maxRecDepth 100000 in
theorem mi_ok12 : ∀ M ∈ [mi_M72, mi_M73, mi_M74, mi_M75, mi_M76, mi_M77], mi_mok M = true := by decide +kernel
set_option maxRecDepth 100000 in
theorem mi_ok13 : ∀ M ∈ [mi_M78, mi_M79, mi_M80, mi_M81, mi_M82, mi_M83], mi_mok M = true := by decide +kernel
set_option maxRecDepth 100000 in
theorem mi_ok14 : ∀ M ∈ [mi_M84, mi_M85, mi_M86, mi_M87, mi_M88, mi_M89], mi_mok M = true := by decide +kernel
set_option maxRecDepth 100000 in
theorem mi_ok15 : ∀ M ∈ [mi_M90, mi_M91, mi_M92, mi_M93, mi_M94, mi_M95], mi_mok M = true := by decide +kernel
set_option maxRecDepth 100000 in
theorem mi_ok16 : ∀ M ∈ [mi_M96, mi_M97, mi_M98, mi_M99, mi_M100, mi_M101], mi_mok M = true := by decide +kernel
set_option maxRecDepth 100000 in
theorem mi_ok17 : ∀ M ∈ [mi_M102, mi_M103, mi_M104, mi_M105, mi_M106, mi_M107], mi_mok M = true := by decide +kernel
set_option maxRecDepth 100000 in
theorem mi_ok18 : ∀ M ∈ [mi_M108, mi_M109, mi_M110, mi_M111, mi_M112, mi_M113], mi_mok M = true := by decide +kernel
set_option maxRecDepth 100000 in
theorem mi_ok19 : ∀ M ∈ [mi_M114, mi_M115, mi_M116, mi_M117, mi_M118, mi_M119], mi_mok M = true := by decide +kernel
set_option maxRecDepth 100000 in
theorem mi_ok20 : ∀ M ∈ [mi_M120, mi_M121, mi_M122, mi_M123, mi_M124, mi_M125], mi_mok M = true := by decide +kernel
set_option maxRecDepth 100000 in
theorem mi_ok21 : ∀ M ∈ [mi_M126, mi_M127, mi_M128, mi_M129, mi_M130, mi_M131], mi_mok M = true := by decide +kernel
set_option maxRecDepth 100000 in
theorem mi_ok22 : ∀ M ∈ [mi_M132, mi_M133, mi_M134, mi_M135, mi_M136, mi_M137], mi_mok M = true := by decide +kernel
set_option maxRecDepth 100000 in
theorem mi_ok23 : ∀ M ∈ [mi_M138, mi_M139, mi_M140, mi_M141], mi_mok M = true := by decide +kernel
theorem mi_ok {M : mi_M} (h : M ∈ mi_mt) : mi_mok M = true := by
  have e : mi_mt = [mi_M0, mi_M1, mi_M2, mi_M3, mi_M4, mi_M5] ++ ([mi_M6, mi_M7, mi_M8, mi_M9, mi_M10, mi_M11] ++ ([mi_M12, mi_M13, mi_M14, mi_M15, mi_M16, mi_M17] ++ ([mi_M18, mi_M19, mi_M20, mi_M21, mi_M22, mi_M23] ++ ([mi_M24, mi_M25, mi_M26, mi_M27, mi_M28, mi_M29] ++ ([mi_M30, mi_M31, mi_M32, mi_M33, mi_M34, mi_M35] ++ ([mi_M36, mi_M37, mi_M38, mi_M39, mi_M40, mi_M41] ++ ([mi_M42, mi_M43, mi_M44, mi_M45, mi_M46, mi_M47] ++ ([mi_M48, mi_M49, mi_M50, mi_M51, mi_M52, mi_M53] ++ ([mi_M54, mi_M55, mi_M56, mi_M57, mi_M58, mi_M59] ++ ([mi_M60, mi_M61, mi_M62, mi_M63, mi_M64, mi_M65] ++ ([mi_M66, mi_M67, mi_M68, mi_M69, mi_M70, mi_M71] ++ ([mi_M72, mi_M73, mi_M74, mi_M75, mi_M76, mi_M77] ++ ([mi_M78, mi_M79, mi_M80, mi_M81, mi_M82, mi_M83] ++ ([mi_M84, mi_M85, mi_M86, mi_M87, mi_M88, mi_M89] ++ ([mi_M90, mi_M91, mi_M92, mi_M93, mi_M94, mi_M95] ++ ([mi_M96, mi_M97, mi_M98, mi_M99, mi_M100, mi_M101] ++ ([mi_M102, mi_M103, mi_M104, mi_M105, mi_M106, mi_M107] ++ ([mi_M108, mi_M109, mi_M110, mi_M111, mi_M112, mi_M113] ++ ([mi_M114, mi_M115, mi_M116, mi_M117, mi_M118, mi_M119] ++ ([mi_M120, mi_M121, mi_M122, mi_M123, mi_M124, mi_M125] ++ ([mi_M126, mi_M127, mi_M128, mi_M129, mi_M130, mi_M131] ++ ([mi_M132, mi_M133, mi_M134, mi_M135, mi_M136, mi_M137] ++ ([mi_M138, mi_M139, mi_M140, mi_M141]))))))))))))))))))))))) := rfl
  rw [e] at h
  rcases List.mem_append.mp h with h | h
  · exact mi_ok0 M h
  rcases List.mem_append.mp h with h | h
  · exact mi_ok1 M h
  rcases List.mem_append.mp h with h | h
  · exact mi_ok2 M h
  rcases List.mem_append.mp h with h | h
  · exact mi_ok3 M h
  rcases List.mem_append.mp h with h | h
  · exact mi_ok4 M h
  rcases List.mem_append.mp h with h | h
  · exact mi_ok5 M h
  rcases List.mem_append.mp h with h | h
  · exact mi_ok6 M h
  rcases List.mem_append.mp h with h | h
  · exact mi_ok7 M h
  rcases List.mem_append.mp h with h | h
  · exact mi_ok8 M h
  rcases List.mem_append.mp h with h | h
  · exact mi_ok9 M h
  rcases List.mem_append.mp h with h | h
  · exact mi_ok10 M h
  rcases List.mem_append.mp h with h | h
  · exact mi_ok11 M h
  rcases List.mem_append.mp h with h | h
  · exact mi_ok12 M h
  rcases List.mem_append.mp h with h | h
  · exact mi_ok13 M h
  rcases List.mem_append.mp h with h | h
  · exact mi_ok14 M h
  rcases List.mem_append.mp h with h | h
  · exact mi_ok15 M h
  rcases List.mem_append.mp h with h | h
  · exact mi_ok16 M h
  rcases List.mem_append.mp h with h | h
  · exact mi_ok17 M h
  rcases List.mem_append.mp h with h | h
  · exact mi_ok18 M h
  rcases List.mem_append.mp h with h | h
  · exact mi_ok19 M h
  rcases List.mem_append.mp h with h | h
  · exact mi_ok20 M h
  rcases List.mem_append.mp h with h | h
  · exact mi_ok21 M h
  rcases List.mem_append.mp h with h | h
  · exact mi_ok22 M h
  exact mi_ok23 M h
