/-! ===== the words that every method is given; that the tables are the machine's ===== -/
def mi_lk {α : Type} : List (Nat × α) → Nat → Option α
  | [], _ => none
  | q :: l, k => if q.1 == k then some q.2 else mi_lk l k
theorem mi_lk_mem {α : Type} {k : Nat} {v : α} : ∀ {l : List (Nat × α)}, mi_lk l k = some v → (k, v) ∈ l
  | [], h => by cases h
  | q :: l, h => by
    unfold mi_lk at h
    by_cases hq : q.1 == k
    · rw [if_pos hq] at h
      cases h
      rw [← beq_iff_eq.mp hq]
      exact List.mem_cons_self
    · rw [if_neg hq] at h
      exact List.mem_cons_of_mem _ (mi_lk_mem h)
def mi_y (M : mi_M) : MethodName := M.1
def mi_bt (M : mi_M) : ByteArray := M.2.1
def mi_nL (M : mi_M) : Nat := M.2.2.1
def mi_rt (M : mi_M) : Option FieldType := M.2.2.2.1
def mi_ow (M : mi_M) : Nat := M.2.2.2.2.1
def mi_kd (M : mi_M) : Nat := M.2.2.2.2.2.1
def mi_np (M : mi_M) : Nat := M.2.2.2.2.2.2.1
def mi_cd (M : mi_M) : List (Nat × Instr × Nat) := M.2.2.2.2.2.2.2.1
def mi_th (M : mi_M) : List (Nat × Nat × Nat × Nat × Nat × Bool) := M.2.2.2.2.2.2.2.2.1
def mi_hd (M : mi_M) : List (Nat × Nat × Nat × Nat) := M.2.2.2.2.2.2.2.2.2
def mi_hw (M : mi_M) : Cond := if mi_kd M = 3 then .codeWith (mi_y M) (mi_bt M) (mi_nL M) (mi_rt M) (mi_hd M) else .code (mi_y M) (mi_bt M) (mi_nL M) (mi_rt M)
def mi_mw (M : mi_M) : List Cond := mi_hw M :: ((if mi_kd M = 0 ∨ mi_kd M = 3 then [.static (mi_y M)] else [.instanceMethod (mi_y M)]) ++ ((if mi_kd M = 1 then [.selects (mi_y M).cls (mi_y M) (mi_y M)] else []) ++ [.initialized (mi_y M).cls]))
def mi_kw (q : vw_C) : List Cond := u_ws q.1 q.2.1 q.2.2 ++ [.instantiable q.1 q.2.2, .initialized q.1]
def mi_flw (o : Nat) (q : Nat × Nat × Nat) : Cond := match mi_cl[q.2.1]? with
  | some x => .fieldLink (mi_on o) q.1 x.1 (x.2.1 q.2.2).2.1 (x.2.1 q.2.2).2.2.1
  | none => .tt
def mi_nfw (o : Nat) (q : Nat × Nat × Nat) : Cond := match mi_cl[q.2.1]? with
  | some x => .fieldLinkNest (mi_on o) q.1 x.1 (x.2.1 q.2.2).2.1 (x.2.1 q.2.2).2.2.1 "TypeLoom"
  | none => .tt
def mi_mlw (o : Nat) (q : Nat × Nat) : Cond := if q.2 = 1000000 then .methodLink (mi_on o) q.1 objectInit else if q.2 = 1000001 then .methodLink (mi_on o) q.1 arraycopyName else if q.2 = 1000002 then .methodLink (mi_on o) q.1 Lib.Math.max.name else if q.2 = 1000003 then .methodLink (mi_on o) q.1 Lib.Math.min.name else match mi_mt[q.2]? with
  | some M => .methodLink (mi_on o) q.1 (mi_y M)
  | none => .tt
def mi_nmw (o : Nat) (q : Nat × Nat) : Cond := match mi_mt[q.2]? with
  | some M => .methodLinkNest (mi_on o) q.1 (mi_y M) "TypeLoom"
  | none => .tt
def mi_klw (o : Nat) (q : Nat × Nat) : Cond := match mi_cl[q.2]? with
  | some x => .classLink (mi_on o) q.1 x.1
  | none => .tt
def mi_xlw (o : Nat) (q : Nat × Nat) : Cond := .classLink (mi_on o) q.1 (mi_xn q.2)
def mi_ilw (o : Nat) (q : Nat × Int32) : Cond := .constant (mi_on o) q.1 q.2
def mi_jlw (o : Nat) (q : Nat × Int64) : Cond := .constantLong (mi_on o) q.1 q.2
def mi_sfw (o : Nat) (q : Nat × Nat) : Cond := if q.2 = 0 then .fieldLink (mi_on o) q.1 "java/lang/String" "value" "[B" else if q.2 = 1 then .fieldLink (mi_on o) q.1 "java/lang/String" "coder" "B" else .tt
def mi_glw (o : Nat) (q : Nat × Nat) : Cond := match mi_st_[q.2]? with
  | some x => .fieldLink (mi_on o) q.1 x.1 x.2.1 x.2.2
  | none => .tt
def mi_lw (o : Nat) : List Cond := (mi_fl o).map (mi_flw o) ++ ((mi_ml o).map (mi_mlw o) ++ ((mi_kl o).map (mi_klw o) ++ ((mi_xl o).map (mi_xlw o) ++ ((mi_il o).map (mi_ilw o) ++ ((mi_jl o).map (mi_jlw o) ++ ((mi_sf o).map (mi_sfw o) ++ (mi_gl o).map (mi_glw o)))))))
def mi_n3 : List Cond := [.arrayClass .int, .arrayClass .long, .arrayClass .byte, .arrayClass .boolean, .code objectInit ⟨#[0xb1]⟩ 1 none, .instanceMethod objectInit, .initialized "java/lang/IllegalStateException", .initialized "java/lang/IllegalArgumentException", .initialized "java/lang/IndexOutOfBoundsException", .initialized "java/lang/Math", .static Lib.Math.max.name, .code Lib.Math.max.name Lib.Math.max.code 2 (some .int), .static Lib.Math.min.name, .code Lib.Math.min.name Lib.Math.min.code 2 (some .int)]
def mi_xc : List String := ["java/lang/RuntimeException", "java/lang/Exception"]
def mi_no : Nat := 17
/-- the exceptions that are thrown, each with its constructor's link -/
def mi_xs : List (Nat × Nat) := [(0, 90), (1, 101), (2, 135)]
def mi_n4 : List Cond := mi_xs.flatMap (fun q => (vx_atS "TypeLoom" q.2 (mi_xn q.1) mi_xc).filter goodWord)
def mi_need : List Cond := mi_cl.flatMap mi_kw ++ (mi_mt.flatMap mi_mw ++ ((List.range mi_no).flatMap mi_lw ++ (mi_n3 ++ mi_n4)))
/-- words that warmer tables keep, but that are no words of a method -/
def mi_bad : List Cond := (List.range mi_no).flatMap (fun o => (mi_nf o).map (mi_nfw o) ++ (mi_nm o).map (mi_nmw o)) ++ mi_xs.flatMap (fun q => (vx_atS "TypeLoom" q.2 (mi_xn q.1) mi_xc).filter (fun w => !goodWord w))
set_option maxRecDepth 100000 in
theorem mi_g0 : GoodIn lw_tbl (mi_cl.flatMap mi_kw) := goodIn_r _ [590, 592, 594, 596, 598, 600, 602, 604, 606, 608, 610, 612, 513, 196, 226, 228, 217, 183, 555, 557, 559, 561, 563, 565, 567, 569, 571, 573, 575, 539, 198, 431, 433, 435, 437, 439, 441, 443, 445, 447, 449, 451, 453, 455, 457, 459, 358, 190, 503, 505, 507, 509, 494, 195, 528, 530, 532, 534, 519, 197, 476, 478, 480, 482, 484, 486, 488, 490, 463, 194, 295, 297, 299, 301, 303, 305, 307, 309, 233, 184, 332, 334, 336, 338, 340, 342, 344, 346, 348, 350, 352, 354, 315, 189, 628, 630, 632, 634, 636, 638, 640, 616, 199, 654, 656, 658, 660, 662, 664, 666, 668, 670, 672, 674, 209, 182, 1833, 1835, 1837, 1839, 1841, 1843, 1845, 1847, 1849, 1851, 1853, 1855, 1857, 1859, 1861, 1863, 1865, 1867, 1869, 1871, 1873, 1875, 1877, 1879, 1881, 1883, 1885, 1887, 1889, 1891, 1893, 1895, 1897, 1899, 1901, 1903, 1905, 1907, 1909, 1911, 1913, 1915, 1917, 1919, 1921, 1923, 1925, 1927, 1929, 1931, 1933, 1935, 1937, 1939, 1941, 1943, 1945, 1947, 1949, 1951, 1953, 1955, 1957, 1959, 1961, 1963, 1965, 1967, 1969, 1971, 1973, 1713, 200] (by decide +kernel) (by decide +kernel)
set_option maxRecDepth 100000 in
theorem mi_g1_0 : GoodIn lw_tbl (List.flatMap mi_mw [mi_M0, mi_M1, mi_M2, mi_M3, mi_M4, mi_M5, mi_M6, mi_M7, mi_M8, mi_M9]) := goodIn_r _ [212, 211, 182, 1476, 1475, 85, 182, 1575, 1574, 87, 182, 1344, 1342, 1343, 182, 1671, 1669, 1670, 182, 680, 678, 679, 182, 1607, 1605, 1606, 182, 1694, 1692, 1693, 182, 1470, 1468, 1469, 182, 1340, 1338, 1339, 182] rfl (by decide +kernel)
set_option maxRecDepth 100000 in
theorem mi_g1_1 : GoodIn lw_tbl (List.flatMap mi_mw [mi_M10, mi_M11, mi_M12, mi_M13, mi_M14, mi_M15, mi_M16, mi_M17, mi_M18, mi_M19]) := goodIn_r _ [1504, 1502, 1503, 182, 684, 683, 0, 182, 1451, 1449, 1450, 182, 1679, 1677, 1678, 182, 1703, 1701, 1702, 182, 1583, 1581, 1582, 182, 1687, 1685, 1686, 182, 1630, 1628, 1629, 182, 1658, 1656, 1657, 182, 1640, 1638, 1639, 182] rfl (by decide +kernel)
set_option maxRecDepth 100000 in
theorem mi_g1_2 : GoodIn lw_tbl (List.flatMap mi_mw [mi_M20, mi_M21, mi_M22, mi_M23, mi_M24, mi_M25, mi_M26, mi_M27, mi_M28, mi_M29]) := goodIn_r _ [516, 515, 196, 978, 977, 39, 196, 974, 972, 973, 196, 220, 219, 183, 703, 701, 702, 183, 833, 831, 832, 183, 862, 860, 861, 183, 542, 541, 198, 361, 360, 190, 1170, 1168, 1169, 190] rfl (by decide +kernel)
set_option maxRecDepth 100000 in
theorem mi_g1_3 : GoodIn lw_tbl (List.flatMap mi_mw [mi_M30, mi_M31, mi_M32, mi_M33, mi_M34, mi_M35, mi_M36, mi_M37, mi_M38, mi_M39]) := goodIn_r _ [692, 690, 691, 190, 1072, 1070, 1071, 190, 1644, 1642, 1643, 190, 1484, 1482, 1483, 190, 1480, 1478, 1479, 190, 366, 365, 190, 497, 496, 195, 958, 957, 35, 195, 954, 953, 34, 195, 894, 893, 23, 195] rfl (by decide +kernel)
set_option maxRecDepth 100000 in
theorem mi_g1_4 : GoodIn lw_tbl (List.flatMap mi_mw [mi_M40, mi_M41, mi_M42, mi_M43, mi_M44, mi_M45, mi_M46, mi_M47, mi_M48, mi_M49]) := goodIn_r _ [854, 853, 15, 195, 825, 824, 10, 195, 829, 828, 11, 195, 950, 949, 33, 195, 816, 814, 815, 195, 1348, 1346, 1347, 195, 942, 941, 31, 195, 820, 819, 9, 195, 970, 969, 38, 195, 946, 945, 32, 195] rfl (by decide +kernel)
set_option maxRecDepth 100000 in
theorem mi_g1_5 : GoodIn lw_tbl (List.flatMap mi_mw [mi_M50, mi_M51, mi_M52, mi_M53, mi_M54, mi_M55, mi_M56, mi_M57, mi_M58, mi_M59]) := goodIn_r _ [850, 849, 14, 195, 522, 521, 197, 982, 980, 981, 197, 466, 465, 194, 688, 686, 687, 194, 1662, 1660, 1661, 194, 934, 932, 933, 194, 236, 235, 184, 727, 726, 4, 184, 719, 718, 2, 184] rfl (by decide +kernel)
set_option maxRecDepth 100000 in
theorem mi_g1_6 : GoodIn lw_tbl (List.flatMap mi_mw [mi_M60, mi_M61, mi_M62, mi_M63, mi_M64, mi_M65, mi_M66, mi_M67, mi_M68, mi_M69]) := goodIn_r _ [812, 810, 811, 184, 715, 714, 1, 184, 858, 856, 857, 184, 707, 705, 706, 184, 723, 722, 3, 184, 318, 317, 189, 696, 694, 695, 189, 1447, 1445, 1446, 189, 414, 412, 413, 189, 402, 400, 401, 189] rfl (by decide +kernel)
set_option maxRecDepth 100000 in
theorem mi_g1_7 : GoodIn lw_tbl (List.flatMap mi_mw [mi_M70, mi_M71, mi_M72, mi_M73, mi_M74, mi_M75, mi_M76, mi_M77, mi_M78, mi_M79]) := goodIn_r _ [410, 408, 409, 189, 378, 376, 377, 189, 374, 372, 373, 189, 406, 404, 405, 189, 619, 618, 199, 1488, 1486, 1487, 199, 1667, 1666, 181, 1602, 1601, 181, 1690, 1689, 181, 1499, 1498, 181] rfl (by decide +kernel)
set_option maxRecDepth 100000 in
theorem mi_g1_8 : GoodIn lw_tbl (List.flatMap mi_mw [mi_M80, mi_M81, mi_M82, mi_M83, mi_M84, mi_M85, mi_M86, mi_M87, mi_M88, mi_M89]) := goodIn_r _ [1675, 1674, 181, 1699, 1698, 181, 1578, 1577, 181, 1683, 1682, 181, 1626, 1625, 181, 1654, 1653, 181, 1636, 1635, 181, 1716, 1715, 200, 2421, 2419, 2420, 200, 2110, 2109, 116, 200] rfl (by decide +kernel)
set_option maxRecDepth 100000 in
theorem mi_g1_9 : GoodIn lw_tbl (List.flatMap mi_mw [mi_M90, mi_M91, mi_M92, mi_M93, mi_M94, mi_M95, mi_M96, mi_M97, mi_M98, mi_M99]) := goodIn_r _ [2381, 2379, 2380, 200, 2106, 2105, 115, 200, 1995, 1993, 1994, 200, 2326, 2324, 2325, 200, 2330, 2329, 167, 200, 2405, 2403, 2404, 200, 2429, 2427, 2428, 200, 2322, 2320, 2321, 200, 2081, 2080, 111, 200, 1983, 1981, 1982, 200] rfl (by decide +kernel)
set_option maxRecDepth 100000 in
theorem mi_g1_10 : GoodIn lw_tbl (List.flatMap mi_mw [mi_M100, mi_M101, mi_M102, mi_M103, mi_M104, mi_M105, mi_M106, mi_M107, mi_M108, mi_M109]) := goodIn_r _ [1755, 1754, 92, 200, 1749, 1748, 91, 200, 2034, 2033, 102, 200, 2114, 2113, 117, 200, 2338, 2337, 168, 200, 1739, 1738, 200, 2006, 2005, 200, 1742, 1741, 200, 2046, 2045, 105, 200, 1745, 1744, 200] rfl (by decide +kernel)
set_option maxRecDepth 100000 in
theorem mi_g1_11 : GoodIn lw_tbl (List.flatMap mi_mw [mi_M110, mi_M111, mi_M112, mi_M113, mi_M114, mi_M115, mi_M116, mi_M117, mi_M118, mi_M119]) := goodIn_r _ [2021, 2020, 99, 200, 1722, 1721, 89, 200, 1736, 1735, 200, 2425, 2423, 2424, 200, 2385, 2383, 2384, 200, 2417, 2415, 2416, 200, 1730, 1729, 200, 1987, 1986, 94, 200, 1761, 1760, 93, 200, 2102, 2101, 114, 200] rfl (by decide +kernel)
set_option maxRecDepth 100000 in
theorem mi_g1_12 : GoodIn lw_tbl (List.flatMap mi_mw [mi_M120, mi_M121, mi_M122, mi_M123, mi_M124, mi_M125, mi_M126, mi_M127, mi_M128, mi_M129]) := goodIn_r _ [2017, 2016, 98, 200, 1999, 1998, 95, 200, 2030, 2029, 101, 200, 2098, 2097, 113, 200, 2026, 2025, 100, 200, 2003, 2002, 96, 200, 1991, 1989, 1990, 200, 1726, 1725, 90, 200, 2401, 2399, 2400, 200, 2334, 2332, 2333, 200] rfl (by decide +kernel)
set_option maxRecDepth 100000 in
theorem mi_g1_13 : GoodIn lw_tbl (List.flatMap mi_mw [mi_M130, mi_M131, mi_M132, mi_M133, mi_M134, mi_M135, mi_M136, mi_M137, mi_M138, mi_M139]) := goodIn_r _ [2377, 2375, 2376, 200, 2373, 2371, 2372, 200, 2124, 2123, 118, 200, 252, 250, 251, 185, 262, 261, 185, 246, 244, 245, 185, 256, 254, 255, 185, 242, 240, 241, 185, 259, 258, 186, 699, 698, 191] rfl (by decide +kernel)
set_option maxRecDepth 100000 in
theorem mi_g1_14 : GoodIn lw_tbl (List.flatMap mi_mw [mi_M140]) := goodIn_r _ [267, 266, 187] rfl (by decide +kernel)
theorem mi_g1 : GoodIn lw_tbl (mi_mt.flatMap mi_mw) := by
  have e : mi_mt = [mi_M0, mi_M1, mi_M2, mi_M3, mi_M4, mi_M5, mi_M6, mi_M7, mi_M8, mi_M9] ++ ([mi_M10, mi_M11, mi_M12, mi_M13, mi_M14, mi_M15, mi_M16, mi_M17, mi_M18, mi_M19] ++ ([mi_M20, mi_M21, mi_M22, mi_M23, mi_M24, mi_M25, mi_M26, mi_M27, mi_M28, mi_M29] ++ ([mi_M30, mi_M31, mi_M32, mi_M33, mi_M34, mi_M35, mi_M36, mi_M37, mi_M38, mi_M39] ++ ([mi_M40, mi_M41, mi_M42, mi_M43, mi_M44, mi_M45, mi_M46, mi_M47, mi_M48, mi_M49] ++ ([mi_M50, mi_M51, mi_M52, mi_M53, mi_M54, mi_M55, mi_M56, mi_M57, mi_M58, mi_M59] ++ ([mi_M60, mi_M61, mi_M62, mi_M63, mi_M64, mi_M65, mi_M66, mi_M67, mi_M68, mi_M69] ++ ([mi_M70, mi_M71, mi_M72, mi_M73, mi_M74, mi_M75, mi_M76, mi_M77, mi_M78, mi_M79] ++ ([mi_M80, mi_M81, mi_M82, mi_M83, mi_M84, mi_M85, mi_M86, mi_M87, mi_M88, mi_M89] ++ ([mi_M90, mi_M91, mi_M92, mi_M93, mi_M94, mi_M95, mi_M96, mi_M97, mi_M98, mi_M99] ++ ([mi_M100, mi_M101, mi_M102, mi_M103, mi_M104, mi_M105, mi_M106, mi_M107, mi_M108, mi_M109] ++ ([mi_M110, mi_M111, mi_M112, mi_M113, mi_M114, mi_M115, mi_M116, mi_M117, mi_M118, mi_M119] ++ ([mi_M120, mi_M121, mi_M122, mi_M123, mi_M124, mi_M125, mi_M126, mi_M127, mi_M128, mi_M129] ++ ([mi_M130, mi_M131, mi_M132, mi_M133, mi_M134, mi_M135, mi_M136, mi_M137, mi_M138, mi_M139] ++ ([mi_M140])))))))))))))) := rfl
  rw [e]
  intro w hw
  obtain ⟨M, hM, hw⟩ := List.mem_flatMap.mp hw
  rcases List.mem_append.mp hM with hM | hM
  · exact mi_g1_0 w (List.mem_flatMap.mpr ⟨M, hM, hw⟩)
  rcases List.mem_append.mp hM with hM | hM
  · exact mi_g1_1 w (List.mem_flatMap.mpr ⟨M, hM, hw⟩)
  rcases List.mem_append.mp hM with hM | hM
  · exact mi_g1_2 w (List.mem_flatMap.mpr ⟨M, hM, hw⟩)
  rcases List.mem_append.mp hM with hM | hM
  · exact mi_g1_3 w (List.mem_flatMap.mpr ⟨M, hM, hw⟩)
  rcases List.mem_append.mp hM with hM | hM
  · exact mi_g1_4 w (List.mem_flatMap.mpr ⟨M, hM, hw⟩)
  rcases List.mem_append.mp hM with hM | hM
  · exact mi_g1_5 w (List.mem_flatMap.mpr ⟨M, hM, hw⟩)
  rcases List.mem_append.mp hM with hM | hM
  · exact mi_g1_6 w (List.mem_flatMap.mpr ⟨M, hM, hw⟩)
  rcases List.mem_append.mp hM with hM | hM
  · exact mi_g1_7 w (List.mem_flatMap.mpr ⟨M, hM, hw⟩)
  rcases List.mem_append.mp hM with hM | hM
  · exact mi_g1_8 w (List.mem_flatMap.mpr ⟨M, hM, hw⟩)
  rcases List.mem_append.mp hM with hM | hM
  · exact mi_g1_9 w (List.mem_flatMap.mpr ⟨M, hM, hw⟩)
  rcases List.mem_append.mp hM with hM | hM
  · exact mi_g1_10 w (List.mem_flatMap.mpr ⟨M, hM, hw⟩)
  rcases List.mem_append.mp hM with hM | hM
  · exact mi_g1_11 w (List.mem_flatMap.mpr ⟨M, hM, hw⟩)
  rcases List.mem_append.mp hM with hM | hM
  · exact mi_g1_12 w (List.mem_flatMap.mpr ⟨M, hM, hw⟩)
  rcases List.mem_append.mp hM with hM | hM
  · exact mi_g1_13 w (List.mem_flatMap.mpr ⟨M, hM, hw⟩)
  exact mi_g1_14 w (List.mem_flatMap.mpr ⟨M, hM, hw⟩)
set_option maxRecDepth 100000 in
theorem mi_g2 : GoodIn lw_tbl ((List.range mi_no).flatMap mi_lw) := goodIn_r _ [583, 578, 580, 581, 584, 579, 582, 585, 587, 588, 517, 540, 975, 983, 984, 979, 518, 538, 224, 222, 221, 548, 549, 550, 544, 545, 546, 547, 543, 417, 418, 419, 420, 421, 422, 423, 424, 416, 425, 426, 427, 428, 429, 430, 362, 364, 371, 396, 399, 403, 407, 411, 367, 368, 693, 697, 1645, 499, 500, 501, 502, 498, 817, 822, 830, 826, 847, 891, 821, 834, 855, 859, 851, 939, 943, 947, 951, 955, 967, 524, 525, 526, 527, 523, 468, 469, 470, 471, 472, 473, 474, 475, 467, 1663, 288, 289, 290, 291, 292, 287, 293, 294, 237, 239, 249, 708, 711, 712, 720, 809, 716, 724, 320, 321, 322, 323, 324, 325, 326, 327, 328, 329, 319, 375, 379, 623, 624, 621, 622, 626, 620, 643, 644, 645, 646, 647, 648, 649, 650, 651, 652, 653, 223, 225, 213, 234, 316, 359, 495, 514, 617, 1572, 681, 700, 704, 813, 971, 1335, 1336, 1473, 1631, 1485, 1641, 1659, 1444, 1345, 1442, 1443, 1452, 685, 689, 1477, 1481, 216, 232, 314, 357, 462, 493, 512, 615, 1505, 1584, 1608, 1471, 1472, 1763, 1765, 1766, 1767, 1768, 1770, 1773, 1774, 1775, 1776, 1777, 1779, 1780, 1781, 1783, 1784, 1785, 1786, 1790, 1791, 1793, 1794, 1795, 1797, 1798, 1799, 1806, 1807, 1808, 1809, 1810, 1811, 1812, 1813, 1816, 1817, 1818, 1823, 1826, 1827, 1828, 1830, 1831, 1762, 1772, 1787, 1788, 1789, 1792, 1800, 1801, 1802, 1803, 1796, 1805, 1814, 1804, 1778, 1764, 1769, 1822, 1819, 1815, 1771, 1717, 1719, 1723, 1728, 1746, 1752, 1758, 1984, 1740, 2000, 1743, 2004, 1737, 2013, 1731, 1733, 2031, 1734, 2027, 2043, 2018, 2023, 2078, 2095, 2099, 2103, 2107, 2111, 2121, 1996, 2014, 2327, 2335, 1718, 1732, 2430, 2431, 2047, 1501, 1580, 1604, 1627, 1637, 1655, 1668, 1676, 1684, 1691, 1700, 210, 1714, 1497, 1980, 1576, 1988, 677, 1992, 1337, 2319, 1600, 2323, 1624, 2331, 1634, 2370, 1652, 2374, 1665, 2378, 1673, 2382, 1681, 2398, 1688, 2402, 1697, 2414, 1341, 2418, 1448, 2422, 1467, 2426, 208, 1712, 1500, 1579, 1603, 243, 253, 257, 265, 2433, 2434, 247, 263, 260] (by decide +kernel) (by decide +kernel)
set_option maxRecDepth 100000 in
theorem mi_g3 : GoodIn lw_tbl (mi_n3) := goodIn_r _ [313, 312, 231, 537, 215, 214, 204, 205, 207, 192, 709, 710, 391, 392] (by decide +kernel) (by decide +kernel)
theorem mi_g4_0 : ∀ w ∈ (vx_atS "TypeLoom" 90 (mi_xn 0) mi_xc).filter goodWord, w ∈ lw_tbl := by decide +kernel
theorem mi_g4_1 : ∀ w ∈ (vx_atS "TypeLoom" 101 (mi_xn 1) mi_xc).filter goodWord, w ∈ lw_tbl := by decide +kernel
theorem mi_g4_2 : ∀ w ∈ (vx_atS "TypeLoom" 135 (mi_xn 2) mi_xc).filter goodWord, w ∈ lw_tbl := by decide +kernel
theorem mi_g4 : GoodIn lw_tbl mi_n4 := by
  intro w hw
  obtain ⟨q, hq, hw⟩ := List.mem_flatMap.mp hw
  refine ⟨?_, good_of_word (List.mem_filter.mp hw).2⟩
  simp only [mi_xs, List.mem_cons, List.not_mem_nil, or_false] at hq
  rcases hq with rfl | rfl | rfl
  · exact mi_g4_0 w hw
  · exact mi_g4_1 w hw
  · exact mi_g4_2 w hw
theorem mi_gn : GoodIn lw_tbl mi_need := goodIn_app mi_g0 (goodIn_app mi_g1 (goodIn_app mi_g2 (goodIn_app mi_g3 mi_g4)))
theorem mi_gself : GoodIn mi_need mi_need := fun w h => ⟨h, (mi_gn w h).2⟩
theorem mi_in0 {w : Cond} {q : vw_C} (hq : q ∈ mi_cl) (h : w ∈ mi_kw q) : w ∈ mi_need := List.mem_append_left _ (List.mem_flatMap.mpr ⟨q, hq, h⟩)
theorem mi_in1 {w : Cond} {M : mi_M} (hq : M ∈ mi_mt) (h : w ∈ mi_mw M) : w ∈ mi_need := List.mem_append_right _ (List.mem_append_left _ (List.mem_flatMap.mpr ⟨M, hq, h⟩))
theorem mi_in2 {w : Cond} {o : Nat} (hq : o < mi_no) (h : w ∈ mi_lw o) : w ∈ mi_need := List.mem_append_right _ (List.mem_append_right _ (List.mem_append_left _ (List.mem_flatMap.mpr ⟨o, List.mem_range.mpr hq, h⟩)))
theorem mi_in3 {w : Cond} (h : w ∈ mi_n3) : w ∈ mi_need := List.mem_append_right _ (List.mem_append_right _ (List.mem_append_right _ (List.mem_append_left _ h)))
theorem mi_in4 {w : Cond} (h : w ∈ mi_n4) : w ∈ mi_need := List.mem_append_right _ (List.mem_append_right _ (List.mem_append_right _ (List.mem_append_right _ h)))
/-- a method's row, held against its class file -/
def mi_mok (M : mi_M) : Bool := plainName (mi_y M).cls && (decide ((mi_y M).cls ≠ "java/lang/invoke/MethodHandle") && (decide ((mi_y M).cls ≠ "java/lang/invoke/VarHandle") && (decide ((parseMethodDescriptor (mi_y M).desc).map (fun d => d.parameters.length) = some (mi_np M)) && (decide ((mi_y M).cls = mi_on (mi_ow M)) && (decide (mi_ow M < mi_no) && (decide (mi_nL M ≤ 20) && ((!decide (mi_kd M = 2) || decide ((mi_y M).name = "<init>")) && ((mi_cd M).all (fun q => decide (decode (mi_bt M) q.1 = .ok q.2)) && ((mi_th M).all (fun q => decide (decode (mi_bt M) q.1 = .ok (.new q.2.2.1, 3)) && (decide (decode (mi_bt M) (q.1 + 3) = .ok (.dup, 1)) && (decide (decode (mi_bt M) (q.1 + 4) = .ok (.ldc q.2.2.2.1, 2)) && (decide (decode (mi_bt M) (q.1 + 6) = .ok (.invokespecial q.2.2.2.2.1, 3)) && (decide (decode (mi_bt M) (q.1 + 9) = .ok (.athrow, 1)) && (decide ((mi_y M).cls = "TypeLoom") && (decide ((q.2.1, q.2.2.2.2.1) ∈ mi_xs) && (decide (mi_kd M < 3) && (decide (mi_lk (mi_xl (mi_ow M)) q.2.2.1 = some q.2.1) && (decide (q.2.1 < 3) && (match mi_lk (mi_sl (mi_ow M)) q.2.2.2.1 with | some i => decide (i < mi_nS) | none => false)))))))))))) && (decide (mi_kd M = 3) || decide (mi_hd M = []))))))))))
set_option maxRecDepth 100000 in
theorem mi_ok0 : ∀ M ∈ [mi_M0, mi_M1, mi_M2, mi_M3, mi_M4, mi_M5], mi_mok M = true := by decide +kernel
set_option maxRecDepth 100000 in
theorem mi_ok1 : ∀ M ∈ [mi_M6, mi_M7, mi_M8, mi_M9, mi_M10, mi_M11], mi_mok M = true := by decide +kernel
set_option maxRecDepth 100000 in
theorem mi_ok2 : ∀ M ∈ [mi_M12, mi_M13, mi_M14, mi_M15, mi_M16, mi_M17], mi_mok M = true := by decide +kernel
set_option maxRecDepth 100000 in
theorem mi_ok3 : ∀ M ∈ [mi_M18, mi_M19, mi_M20, mi_M21, mi_M22, mi_M23], mi_mok M = true := by decide +kernel
set_option maxRecDepth 100000 in
theorem mi_ok4 : ∀ M ∈ [mi_M24, mi_M25, mi_M26, mi_M27, mi_M28, mi_M29], mi_mok M = true := by decide +kernel
set_option maxRecDepth 100000 in
theorem mi_ok5 : ∀ M ∈ [mi_M30, mi_M31, mi_M32, mi_M33, mi_M34, mi_M35], mi_mok M = true := by decide +kernel
set_option maxRecDepth 100000 in
theorem mi_ok6 : ∀ M ∈ [mi_M36, mi_M37, mi_M38, mi_M39, mi_M40, mi_M41], mi_mok M = true := by decide +kernel
set_option maxRecDepth 100000 in
theorem mi_ok7 : ∀ M ∈ [mi_M42, mi_M43, mi_M44, mi_M45, mi_M46, mi_M47], mi_mok M = true := by decide +kernel
set_option maxRecDepth 100000 in
theorem mi_ok8 : ∀ M ∈ [mi_M48, mi_M49, mi_M50, mi_M51, mi_M52, mi_M53], mi_mok M = true := by decide +kernel
set_option maxRecDepth 100000 in
theorem mi_ok9 : ∀ M ∈ [mi_M54, mi_M55, mi_M56, mi_M57, mi_M58, mi_M59], mi_mok M = true := by decide +kernel
set_option maxRecDepth 100000 in
theorem mi_ok10 : ∀ M ∈ [mi_M60, mi_M61, mi_M62, mi_M63, mi_M64, mi_M65], mi_mok M = true := by decide +kernel
set_option maxRecDepth 100000 in
theorem mi_ok11 : ∀ M ∈ [mi_M66, mi_M67, mi_M68, mi_M69, mi_M70, mi_M71], mi_mok M = true := by decide +kernel
set_option maxRecDepth 100000 in
theorem mi_ok12 : ∀ M ∈ [mi_M72, mi_M73, mi_M74, mi_M75, mi_M76, mi_M77], mi_mok M = true := by decide +kernel
set_option maxRecDepth 100000 in
theorem mi_ok13 : ∀ M ∈ [mi_M78, mi_M79, mi_M80, mi_M81, mi_M82, mi_M83], mi_mok M = true := by decide +kernel
set_option maxRecDepth 100000 in
theorem mi_ok14 : ∀ M ∈ [mi_M84, mi_M85, mi_M86, mi_M87, mi_M88, mi_M89], mi_mok M = true := by decide +kernel
set_option maxRecDepth 100000 in
theorem mi_ok15 : ∀ M ∈ [mi_M90, mi_M91, mi_M92, mi_M93, mi_M94, mi_M95], mi_mok M = true := by decide +kernel
set_option maxRecDepth 100000 in
theorem mi_ok16 : ∀ M ∈ [mi_M96, mi_M97, mi_M98, mi_M99, mi_M100, mi_M101], mi_mok M = true := by decide +kernel
set_option maxRecDepth 100000 in
theorem mi_ok17 : ∀ M ∈ [mi_M102, mi_M103, mi_M104, mi_M105, mi_M106, mi_M107], mi_mok M = true := by decide +kernel
set_option maxRecDepth 100000 in
theorem mi_ok18 : ∀ M ∈ [mi_M108, mi_M109, mi_M110, mi_M111, mi_M112, mi_M113], mi_mok M = true := by decide +kernel
set_option maxRecDepth 100000 in
theorem mi_ok19 : ∀ M ∈ [mi_M114, mi_M115, mi_M116, mi_M117, mi_M118, mi_M119], mi_mok M = true := by decide +kernel
set_option maxRecDepth 100000 in
theorem mi_ok20 : ∀ M ∈ [mi_M120, mi_M121, mi_M122, mi_M123, mi_M124, mi_M125], mi_mok M = true := by decide +kernel
set_option maxRecDepth 100000 in
theorem mi_ok21 : ∀ M ∈ [mi_M126, mi_M127, mi_M128, mi_M129, mi_M130, mi_M131], mi_mok M = true := by decide +kernel
set_option maxRecDepth 100000 in
theorem mi_ok22 : ∀ M ∈ [mi_M132, mi_M133, mi_M134, mi_M135, mi_M136, mi_M137], mi_mok M = true := by decide +kernel
set_option maxRecDepth 100000 in
theorem mi_ok23 : ∀ M ∈ [mi_M138, mi_M139, mi_M140], mi_mok M = true := by decide +kernel
theorem mi_ok {M : mi_M} (h : M ∈ mi_mt) : mi_mok M = true := by
  have e : mi_mt = [mi_M0, mi_M1, mi_M2, mi_M3, mi_M4, mi_M5] ++ ([mi_M6, mi_M7, mi_M8, mi_M9, mi_M10, mi_M11] ++ ([mi_M12, mi_M13, mi_M14, mi_M15, mi_M16, mi_M17] ++ ([mi_M18, mi_M19, mi_M20, mi_M21, mi_M22, mi_M23] ++ ([mi_M24, mi_M25, mi_M26, mi_M27, mi_M28, mi_M29] ++ ([mi_M30, mi_M31, mi_M32, mi_M33, mi_M34, mi_M35] ++ ([mi_M36, mi_M37, mi_M38, mi_M39, mi_M40, mi_M41] ++ ([mi_M42, mi_M43, mi_M44, mi_M45, mi_M46, mi_M47] ++ ([mi_M48, mi_M49, mi_M50, mi_M51, mi_M52, mi_M53] ++ ([mi_M54, mi_M55, mi_M56, mi_M57, mi_M58, mi_M59] ++ ([mi_M60, mi_M61, mi_M62, mi_M63, mi_M64, mi_M65] ++ ([mi_M66, mi_M67, mi_M68, mi_M69, mi_M70, mi_M71] ++ ([mi_M72, mi_M73, mi_M74, mi_M75, mi_M76, mi_M77] ++ ([mi_M78, mi_M79, mi_M80, mi_M81, mi_M82, mi_M83] ++ ([mi_M84, mi_M85, mi_M86, mi_M87, mi_M88, mi_M89] ++ ([mi_M90, mi_M91, mi_M92, mi_M93, mi_M94, mi_M95] ++ ([mi_M96, mi_M97, mi_M98, mi_M99, mi_M100, mi_M101] ++ ([mi_M102, mi_M103, mi_M104, mi_M105, mi_M106, mi_M107] ++ ([mi_M108, mi_M109, mi_M110, mi_M111, mi_M112, mi_M113] ++ ([mi_M114, mi_M115, mi_M116, mi_M117, mi_M118, mi_M119] ++ ([mi_M120, mi_M121, mi_M122, mi_M123, mi_M124, mi_M125] ++ ([mi_M126, mi_M127, mi_M128, mi_M129, mi_M130, mi_M131] ++ ([mi_M132, mi_M133, mi_M134, mi_M135, mi_M136, mi_M137] ++ ([mi_M138, mi_M139, mi_M140]))))))))))))))))))))))) := rfl
  rw [e] at h
  rcases List.mem_append.mp h with h | h
  · exact mi_ok0 M h
  rcases List.mem_append.mp h with h | h
  · exact mi_ok1 M h
  rcases List.mem_append.mp h with h | h
  · exact mi_ok2 M h
  rcases List.mem_append.mp h with h | h
  · exact mi_ok3 M h
  rcases List.mem_append.mp h with h | h
  · exact mi_ok4 M h
  rcases List.mem_append.mp h with h | h
  · exact mi_ok5 M h
  rcases List.mem_append.mp h with h | h
  · exact mi_ok6 M h
  rcases List.mem_append.mp h with h | h
  · exact mi_ok7 M h
  rcases List.mem_append.mp h with h | h
  · exact mi_ok8 M h
  rcases List.mem_append.mp h with h | h
  · exact mi_ok9 M h
  rcases List.mem_append.mp h with h | h
  · exact mi_ok10 M h
  rcases List.mem_append.mp h with h | h
  · exact mi_ok11 M h
  rcases List.mem_append.mp h with h | h
  · exact mi_ok12 M h
  rcases List.mem_append.mp h with h | h
  · exact mi_ok13 M h
  rcases List.mem_append.mp h with h | h
  · exact mi_ok14 M h
  rcases List.mem_append.mp h with h | h
  · exact mi_ok15 M h
  rcases List.mem_append.mp h with h | h
  · exact mi_ok16 M h
  rcases List.mem_append.mp h with h | h
  · exact mi_ok17 M h
  rcases List.mem_append.mp h with h | h
  · exact mi_ok18 M h
  rcases List.mem_append.mp h with h | h
  · exact mi_ok19 M h
  rcases List.mem_append.mp h with h | h
  · exact mi_ok20 M h
  rcases List.mem_append.mp h with h | h
  · exact mi_ok21 M h
  rcases List.mem_append.mp h with h | h
  · exact mi_ok22 M h
  exact mi_ok23 M h
