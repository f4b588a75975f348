/-! ===== the words that every method is given; that the tables are the machine's ===== -/
def mi_lk {α : Type} : List (Nat × α) → Nat → Option α
  | [], _ => none
  | q :: l, k => if q.1 == k then some q.2 else mi_lk l k
theorem mi_lk_mem {α : Type} {k : Nat} {v : α} : ∀ {l : List (Nat × α)}, mi_lk l k = some v → (k, v) ∈ l
  | [], h => by cases h
  | q :: l, h => by
    unfold mi_lk at h
    by_cases hq : q.1 == k
    · rw [if_pos hq] at h
      cases h
      rw [← beq_iff_eq.mp hq]
      exact List.mem_cons_self
    · rw [if_neg hq] at h
      exact List.mem_cons_of_mem _ (mi_lk_mem h)
def mi_y (M : mi_M) : MethodName := M.1
def mi_bt (M : mi_M) : ByteArray := M.2.1
def mi_nL (M : mi_M) : Nat := M.2.2.1
def mi_rt (M : mi_M) : Option FieldType := M.2.2.2.1
def mi_ow (M : mi_M) : Nat := M.2.2.2.2.1
def mi_kd (M : mi_M) : Nat := M.2.2.2.2.2.1
def mi_np (M : mi_M) : Nat := M.2.2.2.2.2.2.1
def mi_cd (M : mi_M) : List (Nat × Instr × Nat) := M.2.2.2.2.2.2.2.1
def mi_th (M : mi_M) : List (Nat × Nat × Nat × Nat × Nat × Bool) := M.2.2.2.2.2.2.2.2.1
def mi_hd (M : mi_M) : List (Nat × Nat × Nat × Nat) := M.2.2.2.2.2.2.2.2.2
def mi_hw (M : mi_M) : Cond := if mi_kd M = 3 then .codeWith (mi_y M) (mi_bt M) (mi_nL M) (mi_rt M) (mi_hd M) else .code (mi_y M) (mi_bt M) (mi_nL M) (mi_rt M)
def mi_mw (M : mi_M) : List Cond := mi_hw M :: ((if mi_kd M = 0 ∨ mi_kd M = 3 then [.static (mi_y M)] else [.instanceMethod (mi_y M)]) ++ ((if mi_kd M = 1 then [.selects (mi_y M).cls (mi_y M) (mi_y M)] else []) ++ [.initialized (mi_y M).cls]))
def mi_kw (q : vw_C) : List Cond := u_ws q.1 q.2.1 q.2.2 ++ [.instantiable q.1 q.2.2, .initialized q.1]
def mi_flw (o : Nat) (q : Nat × Nat × Nat) : Cond := match mi_cl[q.2.1]? with
  | some x => .fieldLink (mi_on o) q.1 x.1 (x.2.1 q.2.2).2.1 (x.2.1 q.2.2).2.2.1
  | none => .tt
def mi_nfw (o : Nat) (q : Nat × Nat × Nat) : Cond := match mi_cl[q.2.1]? with
  | some x => .fieldLinkNest (mi_on o) q.1 x.1 (x.2.1 q.2.2).2.1 (x.2.1 q.2.2).2.2.1 "TypeLoom"
  | none => .tt
def mi_alw (o : Nat) (q : Nat × Nat) : Cond := .classLink (mi_on o) q.1 "java/lang/String"
def mi_mlw (o : Nat) (q : Nat × Nat) : Cond := if q.2 = 1000000 then .methodLink (mi_on o) q.1 objectInit else if q.2 = 1000001 then .methodLink (mi_on o) q.1 arraycopyName else if q.2 = 1000002 then .methodLink (mi_on o) q.1 Lib.Math.max.name else if q.2 = 1000003 then .methodLink (mi_on o) q.1 Lib.Math.min.name else match mi_mt[q.2]? with
  | some M => .methodLink (mi_on o) q.1 (mi_y M)
  | none => .tt
def mi_nmw (o : Nat) (q : Nat × Nat) : Cond := match mi_mt[q.2]? with
  | some M => .methodLinkNest (mi_on o) q.1 (mi_y M) "TypeLoom"
  | none => .tt
def mi_klw (o : Nat) (q : Nat × Nat) : Cond := match mi_cl[q.2]? with
  | some x => .classLink (mi_on o) q.1 x.1
  | none => .tt
def mi_xlw (o : Nat) (q : Nat × Nat) : Cond := .classLink (mi_on o) q.1 (mi_xn q.2)
def mi_ilw (o : Nat) (q : Nat × Int32) : Cond := .constant (mi_on o) q.1 q.2
def mi_jlw (o : Nat) (q : Nat × Int64) : Cond := .constantLong (mi_on o) q.1 q.2
def mi_sfw (o : Nat) (q : Nat × Nat) : Cond := if q.2 = 0 then .fieldLink (mi_on o) q.1 "java/lang/String" "value" "[B" else if q.2 = 1 then .fieldLink (mi_on o) q.1 "java/lang/String" "coder" "B" else .tt
def mi_glw (o : Nat) (q : Nat × Nat) : Cond := match mi_st_[q.2]? with
  | some x => .fieldLink (mi_on o) q.1 x.1 x.2.1 x.2.2
  | none => .tt
def mi_lw (o : Nat) : List Cond := (mi_fl o).map (mi_flw o) ++ ((mi_ml o).map (mi_mlw o) ++ ((mi_kl o).map (mi_klw o) ++ ((mi_xl o).map (mi_xlw o) ++ ((mi_al_ o).map (mi_alw o) ++ ((mi_il o).map (mi_ilw o) ++ ((mi_jl o).map (mi_jlw o) ++ ((mi_sf o).map (mi_sfw o) ++ (mi_gl o).map (mi_glw o))))))))
def mi_n3 : List Cond := [.arrayClass .int, .arrayClass .long, .arrayClass .byte, .arrayClass .boolean, .code objectInit ⟨#[0xb1]⟩ 1 none, .instanceMethod objectInit, .initialized "java/lang/IllegalStateException", .initialized "java/lang/IllegalArgumentException", .initialized "java/lang/IndexOutOfBoundsException", .initialized "java/lang/Math", .static Lib.Math.max.name, .code Lib.Math.max.name Lib.Math.max.code 2 (some .int), .static Lib.Math.min.name, .code Lib.Math.min.name Lib.Math.min.code 2 (some .int)]
def mi_xc : List String := ["java/lang/RuntimeException", "java/lang/Exception"]
def mi_no : Nat := 17
/-- the exceptions that are thrown, each with its constructor's link -/
def mi_xs : List (Nat × Nat) := [(0, 90), (1, 101), (2, 135)]
def mi_n4 : List Cond := mi_xs.flatMap (fun q => (vx_atS "TypeLoom" q.2 (mi_xn q.1) mi_xc).filter goodWord)
def mi_need : List Cond := mi_cl.flatMap mi_kw ++ (mi_mt.flatMap mi_mw ++ ((List.range mi_no).flatMap mi_lw ++ (mi_n3 ++ mi_n4)))
/-- words that warmer tables keep, but that are no words of a method -/
def mi_bad : List Cond := (List.range mi_no).flatMap (fun o => (mi_nf o).map (mi_nfw o) ++ (mi_nm o).map (mi_nmw o)) ++ mi_xs.flatMap (fun q => (vx_atS "TypeLoom" q.2 (mi_xn q.1) mi_xc).filter (fun w => !goodWord w))
set_option maxRecDepth 100000 in
theorem mi_g0 : GoodIn lw_tbl (mi_cl.flatMap mi_kw) := goodIn_r _ [495, 497, 499, 501, 503, 505, 507, 509, 511, 513, 515, 517, 418, 103, 131, 133, 123, 90, 460, 462, 464, 466, 468, 470, 472, 474, 476, 478, 480, 444, 105, 336, 338, 340, 342, 344, 346, 348, 350, 352, 354, 356, 358, 360, 362, 364, 263, 97, 408, 410, 412, 414, 399, 102, 433, 435, 437, 439, 424, 104, 381, 383, 385, 387, 389, 391, 393, 395, 368, 101, 200, 202, 204, 206, 208, 210, 212, 214, 138, 91, 237, 239, 241, 243, 245, 247, 249, 251, 253, 255, 257, 259, 220, 96, 533, 535, 537, 539, 541, 543, 545, 521, 106, 559, 561, 563, 565, 567, 569, 571, 573, 575, 577, 579, 115, 89] (by decide +kernel) (by decide +kernel)
set_option maxRecDepth 100000 in
theorem mi_g1_0 : GoodIn lw_tbl (List.flatMap mi_mw [mi_M0, mi_M1, mi_M2, mi_M3, mi_M4, mi_M5, mi_M6, mi_M7, mi_M8, mi_M9]) := goodIn_r _ [118, 117, 89, 1316, 1315, 73, 89, 1518, 1517, 87, 89, 1545, 1543, 1544, 89, 1448, 1446, 1447, 89, 585, 583, 584, 89, 1245, 1243, 1244, 89, 1483, 1481, 1482, 89, 1513, 1511, 1512, 89, 589, 588, 0, 89] rfl (by decide +kernel)
set_option maxRecDepth 100000 in
theorem mi_g1_1 : GoodIn lw_tbl (List.flatMap mi_mw [mi_M10, mi_M11, mi_M12, mi_M13, mi_M14, mi_M15, mi_M16, mi_M17, mi_M18, mi_M19]) := goodIn_r _ [1457, 1455, 1456, 89, 1462, 1461, 86, 89, 1493, 1491, 1492, 89, 1522, 1520, 1521, 89, 1475, 1473, 1474, 89, 1333, 1331, 1332, 89, 421, 420, 103, 1058, 1057, 52, 103, 1106, 1105, 55, 103, 1083, 1082, 54, 103] rfl (by decide +kernel)
set_option maxRecDepth 100000 in
theorem mi_g1_2 : GoodIn lw_tbl (List.flatMap mi_mw [mi_M20, mi_M21, mi_M22, mi_M23, mi_M24, mi_M25, mi_M26, mi_M27, mi_M28, mi_M29]) := goodIn_r _ [883, 882, 39, 103, 1033, 1032, 49, 103, 879, 877, 878, 103, 1054, 1053, 51, 103, 902, 901, 40, 103, 1037, 1036, 50, 103, 906, 905, 41, 103, 126, 125, 90, 608, 606, 607, 90, 738, 736, 737, 90] rfl (by decide +kernel)
set_option maxRecDepth 100000 in
theorem mi_g1_3 : GoodIn lw_tbl (List.flatMap mi_mw [mi_M30, mi_M31, mi_M32, mi_M33, mi_M34, mi_M35, mi_M36, mi_M37, mi_M38, mi_M39]) := goodIn_r _ [447, 446, 105, 1062, 1060, 1061, 105, 1066, 1065, 53, 105, 1239, 1238, 71, 105, 1234, 1233, 70, 105, 1178, 1177, 64, 105, 1222, 1221, 68, 105, 1142, 1140, 1141, 105, 1079, 1077, 1078, 105, 1154, 1153, 61, 105] rfl (by decide +kernel)
set_option maxRecDepth 100000 in
theorem mi_g1_4 : GoodIn lw_tbl (List.flatMap mi_mw [mi_M40, mi_M41, mi_M42, mi_M43, mi_M44, mi_M45, mi_M46, mi_M47, mi_M48, mi_M49]) := goodIn_r _ [1160, 1159, 62, 105, 1218, 1217, 67, 105, 1226, 1225, 69, 105, 266, 265, 97, 1097, 1095, 1096, 97, 962, 960, 961, 97, 966, 964, 965, 97, 1075, 1073, 1074, 97, 1071, 1069, 1070, 97, 597, 595, 596, 97] rfl (by decide +kernel)
set_option maxRecDepth 100000 in
theorem mi_g1_5 : GoodIn lw_tbl (List.flatMap mi_mw [mi_M50, mi_M51, mi_M52, mi_M53, mi_M54, mi_M55, mi_M56, mi_M57, mi_M58, mi_M59]) := goodIn_r _ [977, 975, 976, 97, 271, 270, 97, 1366, 1364, 1365, 97, 1230, 1228, 1229, 97, 969, 968, 97, 1479, 1477, 1478, 97, 1165, 1163, 1164, 97, 973, 971, 972, 97, 402, 401, 102, 747, 746, 13, 102] rfl (by decide +kernel)
set_option maxRecDepth 100000 in
theorem mi_g1_6 : GoodIn lw_tbl (List.flatMap mi_mw [mi_M60, mi_M61, mi_M62, mi_M63, mi_M64, mi_M65, mi_M66, mi_M67, mi_M68, mi_M69]) := goodIn_r _ [807, 806, 25, 102, 863, 862, 35, 102, 871, 870, 37, 102, 859, 858, 34, 102, 795, 794, 22, 102, 799, 798, 23, 102, 783, 782, 19, 102, 787, 786, 20, 102, 791, 790, 21, 102, 823, 822, 27, 102] rfl (by decide +kernel)
set_option maxRecDepth 100000 in
theorem mi_g1_7 : GoodIn lw_tbl (List.flatMap mi_mw [mi_M70, mi_M71, mi_M72, mi_M73, mi_M74, mi_M75, mi_M76, mi_M77, mi_M78, mi_M79]) := goodIn_r _ [730, 729, 10, 102, 734, 733, 11, 102, 803, 802, 24, 102, 779, 778, 18, 102, 855, 854, 33, 102, 721, 719, 720, 102, 1549, 1547, 1548, 102, 847, 846, 31, 102, 867, 866, 36, 102, 725, 724, 9, 102] rfl (by decide +kernel)
set_option maxRecDepth 100000 in
theorem mi_g1_8 : GoodIn lw_tbl (List.flatMap mi_mw [mi_M80, mi_M81, mi_M82, mi_M83, mi_M84, mi_M85, mi_M86, mi_M87, mi_M88, mi_M89]) := goodIn_r _ [875, 874, 38, 102, 775, 774, 17, 102, 851, 850, 32, 102, 755, 754, 14, 102, 427, 426, 104, 1102, 1100, 1101, 104, 887, 885, 886, 104, 1110, 1108, 1109, 104, 922, 920, 921, 104, 1041, 1039, 1040, 104] rfl (by decide +kernel)
set_option maxRecDepth 100000 in
theorem mi_g1_9 : GoodIn lw_tbl (List.flatMap mi_mw [mi_M90, mi_M91, mi_M92, mi_M93, mi_M94, mi_M95, mi_M96, mi_M97, mi_M98, mi_M99]) := goodIn_r _ [914, 912, 913, 104, 918, 916, 917, 104, 1045, 1043, 1044, 104, 371, 370, 101, 843, 841, 842, 101, 751, 749, 750, 101, 898, 896, 897, 101, 593, 591, 592, 101, 819, 818, 26, 101, 893, 891, 892, 101] rfl (by decide +kernel)
set_option maxRecDepth 100000 in
theorem mi_g1_10 : GoodIn lw_tbl (List.flatMap mi_mw [mi_M100, mi_M101, mi_M102, mi_M103, mi_M104, mi_M105, mi_M106, mi_M107, mi_M108, mi_M109]) := goodIn_r _ [815, 813, 814, 101, 1050, 1048, 1049, 101, 839, 837, 838, 101, 1005, 1003, 1004, 101, 141, 140, 91, 632, 631, 4, 91, 624, 623, 2, 91, 645, 644, 91, 638, 637, 91, 635, 634, 91] rfl (by decide +kernel)
set_option maxRecDepth 100000 in
theorem mi_g1_11 : GoodIn lw_tbl (List.flatMap mi_mw [mi_M110, mi_M111, mi_M112, mi_M113, mi_M114, mi_M115, mi_M116, mi_M117, mi_M118, mi_M119]) := goodIn_r _ [910, 908, 909, 91, 717, 715, 716, 91, 649, 648, 6, 91, 811, 809, 810, 91, 620, 619, 1, 91, 763, 761, 762, 91, 612, 610, 611, 91, 657, 656, 8, 91, 628, 627, 3, 91, 642, 641, 5, 91] rfl (by decide +kernel)
set_option maxRecDepth 100000 in
theorem mi_g1_12 : GoodIn lw_tbl (List.flatMap mi_mw [mi_M120, mi_M121, mi_M122, mi_M123, mi_M124, mi_M125, mi_M126, mi_M127, mi_M128, mi_M129]) := goodIn_r _ [223, 222, 96, 930, 928, 929, 96, 926, 924, 925, 96, 601, 599, 600, 96, 1489, 1487, 1488, 96, 942, 941, 42, 96, 319, 317, 318, 96, 938, 936, 937, 96, 1019, 1017, 1018, 96, 307, 305, 306, 96] rfl (by decide +kernel)
set_option maxRecDepth 100000 in
theorem mi_g1_13 : GoodIn lw_tbl (List.flatMap mi_mw [mi_M130, mi_M131, mi_M132, mi_M133, mi_M134, mi_M135, mi_M136, mi_M137, mi_M138, mi_M139]) := goodIn_r _ [934, 932, 933, 96, 1350, 1348, 1349, 96, 1354, 1352, 1353, 96, 1023, 1022, 48, 96, 315, 313, 314, 96, 954, 952, 953, 96, 283, 281, 282, 96, 279, 277, 278, 96, 1093, 1091, 1092, 96, 1467, 1465, 1466, 96] rfl (by decide +kernel)
set_option maxRecDepth 100000 in
theorem mi_g1_14 : GoodIn lw_tbl (List.flatMap mi_mw [mi_M140, mi_M141, mi_M142, mi_M143, mi_M144, mi_M145, mi_M146, mi_M147, mi_M148, mi_M149]) := goodIn_r _ [958, 956, 957, 96, 950, 949, 44, 96, 311, 309, 310, 96, 1087, 1085, 1086, 96, 1471, 1469, 1470, 96, 1386, 1384, 1385, 96, 1358, 1356, 1357, 96, 946, 945, 43, 96, 1014, 1012, 1013, 96, 524, 523, 106] rfl (by decide +kernel)
set_option maxRecDepth 100000 in
theorem mi_g1_15 : GoodIn lw_tbl (List.flatMap mi_mw [mi_M150, mi_M151, mi_M152, mi_M153, mi_M154, mi_M155, mi_M156, mi_M157, mi_M158, mi_M159]) := goodIn_r _ [1380, 1379, 77, 106, 1453, 1451, 1452, 106, 1369, 1368, 106, 1376, 1375, 76, 106, 1391, 1390, 78, 106, 1418, 1417, 83, 106, 1423, 1422, 84, 106, 1344, 1343, 74, 106, 1362, 1361, 75, 106, 1340, 1338, 1339, 106] rfl (by decide +kernel)
set_option maxRecDepth 100000 in
theorem mi_g1_16 : GoodIn lw_tbl (List.flatMap mi_mw [mi_M160, mi_M161, mi_M162, mi_M163, mi_M164, mi_M165, mi_M166, mi_M167, mi_M168, mi_M169]) := goodIn_r _ [1395, 1394, 79, 106, 1411, 1410, 82, 106, 1428, 1427, 85, 106, 1399, 1398, 80, 106, 1404, 1403, 81, 106, 1329, 1327, 1328, 106, 1497, 1495, 1496, 106, 1541, 1540, 88, 1582, 1581, 88, 1562, 1561, 88] rfl (by decide +kernel)
set_option maxRecDepth 100000 in
theorem mi_g1_17 : GoodIn lw_tbl (List.flatMap mi_mw [mi_M170, mi_M171, mi_M172, mi_M173, mi_M174, mi_M175, mi_M176, mi_M177, mi_M178, mi_M179]) := goodIn_r _ [1558, 1557, 88, 1590, 1589, 88, 1509, 1508, 88, 1586, 1585, 88, 1505, 1504, 88, 1500, 1499, 88, 1566, 1565, 88, 1555, 1554, 88, 1414, 1413, 99, 1183, 1182, 99] rfl (by decide +kernel)
set_option maxRecDepth 100000 in
theorem mi_g1_18 : GoodIn lw_tbl (List.flatMap mi_mw [mi_M180, mi_M181, mi_M182, mi_M183, mi_M184, mi_M185, mi_M186, mi_M187, mi_M188, mi_M189]) := goodIn_r _ [157, 155, 156, 92, 167, 166, 92, 151, 149, 150, 92, 662, 660, 661, 92, 666, 664, 665, 92, 161, 159, 160, 92, 147, 145, 146, 92, 673, 672, 93, 164, 163, 93, 670, 669, 93] rfl (by decide +kernel)
set_option maxRecDepth 100000 in
theorem mi_g1_19 : GoodIn lw_tbl (List.flatMap mi_mw [mi_M190, mi_M191, mi_M192]) := goodIn_r _ [678, 677, 93, 604, 603, 98, 172, 171, 94] rfl (by decide +kernel)
theorem mi_g1 : GoodIn lw_tbl (mi_mt.flatMap mi_mw) := by
  have e : mi_mt = [mi_M0, mi_M1, mi_M2, mi_M3, mi_M4, mi_M5, mi_M6, mi_M7, mi_M8, mi_M9] ++ ([mi_M10, mi_M11, mi_M12, mi_M13, mi_M14, mi_M15, mi_M16, mi_M17, mi_M18, mi_M19] ++ ([mi_M20, mi_M21, mi_M22, mi_M23, mi_M24, mi_M25, mi_M26, mi_M27, mi_M28, mi_M29] ++ ([mi_M30, mi_M31, mi_M32, mi_M33, mi_M34, mi_M35, mi_M36, mi_M37, mi_M38, mi_M39] ++ ([mi_M40, mi_M41, mi_M42, mi_M43, mi_M44, mi_M45, mi_M46, mi_M47, mi_M48, mi_M49] ++ ([mi_M50, mi_M51, mi_M52, mi_M53, mi_M54, mi_M55, mi_M56, mi_M57, mi_M58, mi_M59] ++ ([mi_M60, mi_M61, mi_M62, mi_M63, mi_M64, mi_M65, mi_M66, mi_M67, mi_M68, mi_M69] ++ ([mi_M70, mi_M71, mi_M72, mi_M73, mi_M74, mi_M75, mi_M76, mi_M77, mi_M78, mi_M79] ++ ([mi_M80, mi_M81, mi_M82, mi_M83, mi_M84, mi_M85, mi_M86, mi_M87, mi_M88, mi_M89] ++ ([mi_M90, mi_M91, mi_M92, mi_M93, mi_M94, mi_M95, mi_M96, mi_M97, mi_M98, mi_M99] ++ ([mi_M100, mi_M101, mi_M102, mi_M103, mi_M104, mi_M105, mi_M106, mi_M107, mi_M108, mi_M109] ++ ([mi_M110, mi_M111, mi_M112, mi_M113, mi_M114, mi_M115, mi_M116, mi_M117, mi_M118, mi_M119] ++ ([mi_M120, mi_M121, mi_M122, mi_M123, mi_M124, mi_M125, mi_M126, mi_M127, mi_M128, mi_M129] ++ ([mi_M130, mi_M131, mi_M132, mi_M133, mi_M134, mi_M135, mi_M136, mi_M137, mi_M138, mi_M139] ++ ([mi_M140, mi_M141, mi_M142, mi_M143, mi_M144, mi_M145, mi_M146, mi_M147, mi_M148, mi_M149] ++ ([mi_M150, mi_M151, mi_M152, mi_M153, mi_M154, mi_M155, mi_M156, mi_M157, mi_M158, mi_M159] ++ ([mi_M160, mi_M161, mi_M162, mi_M163, mi_M164, mi_M165, mi_M166, mi_M167, mi_M168, mi_M169] ++ ([mi_M170, mi_M171, mi_M172, mi_M173, mi_M174, mi_M175, mi_M176, mi_M177, mi_M178, mi_M179] ++ ([mi_M180, mi_M181, mi_M182, mi_M183, mi_M184, mi_M185, mi_M186, mi_M187, mi_M188, mi_M189] ++ ([mi_M190, mi_M191, mi_M192]))))))))))))))))))) := rfl
  rw [e]
  intro w hw
  obtain ⟨M, hM, hw⟩ := List.mem_flatMap.mp hw
  rcases List.mem_append.mp hM with hM | hM
  · exact mi_g1_0 w (List.mem_flatMap.mpr ⟨M, hM, hw⟩)
  rcases List.mem_append.mp hM with hM | hM
  · exact mi_g1_1 w (List.mem_flatMap.mpr ⟨M, hM, hw⟩)
  rcases List.mem_append.mp hM with hM | hM
  · exact mi_g1_2 w (List.mem_flatMap.mpr ⟨M, hM, hw⟩)
  rcases List.mem_append.mp hM with hM | hM
  · exact mi_g1_3 w (List.mem_flatMap.mpr ⟨M, hM, hw⟩)
  rcases List.mem_append.mp hM with hM | hM
  · exact mi_g1_4 w (List.mem_flatMap.mpr ⟨M, hM, hw⟩)
  rcases List.mem_append.mp hM with hM | hM
  · exact mi_g1_5 w (List.mem_flatMap.mpr ⟨M, hM, hw⟩)
  rcases List.mem_append.mp hM with hM | hM
  · exact mi_g1_6 w (List.mem_flatMap.mpr ⟨M, hM, hw⟩)
  rcases List.mem_append.mp hM with hM | hM
  · exact mi_g1_7 w (List.mem_flatMap.mpr ⟨M, hM, hw⟩)
  rcases List.mem_append.mp hM with hM | hM
  · exact mi_g1_8 w (List.mem_flatMap.mpr ⟨M, hM, hw⟩)
  rcases List.mem_append.mp hM with hM | hM
  · exact mi_g1_9 w (List.mem_flatMap.mpr ⟨M, hM, hw⟩)
  rcases List.mem_append.mp hM with hM | hM
  · exact mi_g1_10 w (List.mem_flatMap.mpr ⟨M, hM, hw⟩)
  rcases List.mem_append.mp hM with hM | hM
  · exact mi_g1_11 w (List.mem_flatMap.mpr ⟨M, hM, hw⟩)
  rcases List.mem_append.mp hM with hM | hM
  · exact mi_g1_12 w (List.mem_flatMap.mpr ⟨M, hM, hw⟩)
  rcases List.mem_append.mp hM with hM | hM
  · exact mi_g1_13 w (List.mem_flatMap.mpr ⟨M, hM, hw⟩)
  rcases List.mem_append.mp hM with hM | hM
  · exact mi_g1_14 w (List.mem_flatMap.mpr ⟨M, hM, hw⟩)
  rcases List.mem_append.mp hM with hM | hM
  · exact mi_g1_15 w (List.mem_flatMap.mpr ⟨M, hM, hw⟩)
  rcases List.mem_append.mp hM with hM | hM
  · exact mi_g1_16 w (List.mem_flatMap.mpr ⟨M, hM, hw⟩)
  rcases List.mem_append.mp hM with hM | hM
  · exact mi_g1_17 w (List.mem_flatMap.mpr ⟨M, hM, hw⟩)
  rcases List.mem_append.mp hM with hM | hM
  · exact mi_g1_18 w (List.mem_flatMap.mpr ⟨M, hM, hw⟩)
  exact mi_g1_19 w (List.mem_flatMap.mpr ⟨M, hM, hw⟩)
set_option maxRecDepth 100000 in
theorem mi_g2 : GoodIn lw_tbl ((List.range mi_no).flatMap mi_lw) := goodIn_r _ [488, 483, 485, 486, 489, 484, 487, 490, 492, 493, 494, 491, 422, 445, 880, 888, 889, 890, 894, 895, 899, 1047, 1051, 1139, 884, 1055, 1076, 1080, 1030, 907, 1011, 1099, 1103, 1002, 1016, 1059, 1068, 963, 1072, 1084, 1089, 1090, 1094, 1107, 1112, 923, 1042, 903, 1006, 1034, 911, 915, 919, 959, 970, 1015, 1038, 423, 443, 130, 128, 127, 453, 454, 455, 449, 450, 451, 452, 458, 456, 457, 448, 1151, 1215, 1157, 1223, 1231, 1236, 1063, 1067, 1155, 1161, 1162, 1181, 1175, 1185, 1207, 1208, 1209, 1219, 1227, 1235, 1179, 1180, 322, 323, 324, 325, 326, 327, 328, 329, 321, 330, 331, 332, 333, 334, 335, 267, 269, 276, 301, 304, 308, 312, 316, 272, 273, 598, 602, 967, 1098, 974, 404, 405, 406, 407, 403, 722, 727, 735, 731, 752, 796, 726, 739, 760, 748, 744, 808, 812, 792, 772, 776, 780, 784, 788, 800, 820, 844, 804, 848, 852, 856, 860, 872, 864, 868, 429, 430, 431, 432, 428, 1046, 1111, 373, 374, 375, 376, 377, 378, 379, 380, 372, 816, 193, 194, 195, 196, 197, 192, 198, 199, 142, 144, 154, 613, 616, 617, 625, 714, 621, 629, 633, 636, 639, 643, 654, 646, 659, 225, 226, 227, 228, 229, 230, 231, 232, 233, 234, 236, 235, 224, 280, 935, 1020, 927, 931, 1024, 1025, 939, 943, 955, 947, 951, 284, 1088, 528, 529, 526, 527, 531, 532, 530, 525, 1341, 1347, 1351, 1383, 1387, 1388, 1392, 1396, 1345, 1346, 1355, 1359, 1371, 1372, 1373, 1377, 1382, 1363, 1367, 1401, 1408, 1415, 1420, 1425, 1412, 1405, 1406, 1381, 1370, 548, 549, 550, 551, 552, 553, 554, 555, 556, 557, 558, 129, 119, 139, 221, 264, 400, 419, 522, 1515, 586, 605, 609, 718, 876, 1240, 1241, 1313, 1334, 1336, 1337, 1326, 1550, 1450, 1459, 1476, 1484, 1485, 1486, 1494, 1546, 1551, 1325, 590, 594, 1463, 1464, 1468, 122, 137, 219, 262, 367, 398, 417, 520, 1429, 1523, 1246, 1501, 1502, 1498, 1503, 1242, 1510, 1519, 1507, 582, 1542, 1556, 1560, 1553, 1580, 1564, 116, 1480, 1454, 1330, 1445, 1539, 1588, 1490, 1584, 1472, 114, 1587, 1570, 1563, 1559, 148, 158, 162, 667, 663, 668, 170, 1605, 1606, 152, 168, 165, 675, 671, 674, 676] (by decide +kernel) (by decide +kernel)
set_option maxRecDepth 100000 in
theorem mi_g3 : GoodIn lw_tbl (mi_n3) := goodIn_r _ [218, 217, 136, 442, 121, 120, 111, 112, 110, 99, 614, 615, 296, 297] (by decide +kernel) (by decide +kernel)
theorem mi_g4_0 : ∀ w ∈ (vx_atS "TypeLoom" 90 (mi_xn 0) mi_xc).filter goodWord, w ∈ lw_tbl := by decide +kernel
theorem mi_g4_1 : ∀ w ∈ (vx_atS "TypeLoom" 101 (mi_xn 1) mi_xc).filter goodWord, w ∈ lw_tbl := by decide +kernel
theorem mi_g4_2 : ∀ w ∈ (vx_atS "TypeLoom" 135 (mi_xn 2) mi_xc).filter goodWord, w ∈ lw_tbl := by decide +kernel
theorem mi_g4 : GoodIn lw_tbl mi_n4 := by
  intro w hw
  obtain ⟨q, hq, hw⟩ := List.mem_flatMap.mp hw
  refine ⟨?_, good_of_word (List.mem_filter.mp hw).2⟩
  simp only [mi_xs, List.mem_cons, List.not_mem_nil, or_false] at hq
  rcases hq with rfl | rfl | rfl
  · exact mi_g4_0 w hw
  · exact mi_g4_1 w hw
  · exact mi_g4_2 w hw
theorem mi_gn : GoodIn lw_tbl mi_need := goodIn_app mi_g0 (goodIn_app mi_g1 (goodIn_app mi_g2 (goodIn_app mi_g3 mi_g4)))
theorem mi_gself : GoodIn mi_need mi_need := fun w h => ⟨h, (mi_gn w h).2⟩
theorem mi_in0 {w : Cond} {q : vw_C} (hq : q ∈ mi_cl) (h : w ∈ mi_kw q) : w ∈ mi_need := List.mem_append_left _ (List.mem_flatMap.mpr ⟨q, hq, h⟩)
theorem mi_in1 {w : Cond} {M : mi_M} (hq : M ∈ mi_mt) (h : w ∈ mi_mw M) : w ∈ mi_need := List.mem_append_right _ (List.mem_append_left _ (List.mem_flatMap.mpr ⟨M, hq, h⟩))
theorem mi_in2 {w : Cond} {o : Nat} (hq : o < mi_no) (h : w ∈ mi_lw o) : w ∈ mi_need := List.mem_append_right _ (List.mem_append_right _ (List.mem_append_left _ (List.mem_flatMap.mpr ⟨o, List.mem_range.mpr hq, h⟩)))
theorem mi_in3 {w : Cond} (h : w ∈ mi_n3) : w ∈ mi_need := List.mem_append_right _ (List.mem_append_right _ (List.mem_append_right _ (List.mem_append_left _ h)))
theorem mi_in4 {w : Cond} (h : w ∈ mi_n4) : w ∈ mi_need := List.mem_append_right _ (List.mem_append_right _ (List.mem_append_right _ (List.mem_append_right _ h)))
/-- a method's row, held against its class file -/
def mi_mok (M : mi_M) : Bool := plainFor (mi_y M) && (decide ((mi_y M).cls ≠ "java/lang/invoke/MethodHandle") && (decide ((mi_y M).cls ≠ "java/lang/invoke/VarHandle") && (decide ((parseMethodDescriptor (mi_y M).desc).map (fun d => d.parameters.length) = some (mi_np M)) && (decide ((mi_y M).cls = mi_on (mi_ow M)) && (decide (mi_ow M < mi_no) && (decide (mi_nL M ≤ 20) && ((!decide (mi_kd M = 2) || decide ((mi_y M).name = "<init>")) && ((mi_cd M).all (fun q => decide (decode (mi_bt M) q.1 = .ok q.2)) && ((mi_th M).all (fun q => decide (decode (mi_bt M) q.1 = .ok (.new q.2.2.1, 3)) && (decide (decode (mi_bt M) (q.1 + 3) = .ok (.dup, 1)) && (decide (decode (mi_bt M) (q.1 + 4) = .ok (.ldc q.2.2.2.1, 2)) && (decide (decode (mi_bt M) (q.1 + 6) = .ok (.invokespecial q.2.2.2.2.1, 3)) && (decide (decode (mi_bt M) (q.1 + 9) = .ok (.athrow, 1)) && (decide ((mi_y M).cls = "TypeLoom") && (decide ((q.2.1, q.2.2.2.2.1) ∈ mi_xs) && (decide (mi_kd M < 3) && (decide (mi_lk (mi_xl (mi_ow M)) q.2.2.1 = some q.2.1) && (decide (q.2.1 < 3) && (match mi_lk (mi_sl (mi_ow M)) q.2.2.2.1 with | some i => decide (i < mi_nS) | none => false)))))))))))) && (decide (mi_kd M = 3) || decide (mi_hd M = []))))))))))
set_option maxRecDepth 100000 in
theorem mi_ok0 : ∀ M ∈ [mi_M0, mi_M1, mi_M2, mi_M3, mi_M4, mi_M5], mi_mok M = true := by decide +kernel
set_option maxRecDepth 100000 in
theorem mi_ok1 : ∀ M ∈ [mi_M6, mi_M7, mi_M8, mi_M9, mi_M10, mi_M11], mi_mok M = true := by decide +kernel
set_option maxRecDepth 100000 in
theorem mi_ok2 : ∀ M ∈ [mi_M12, mi_M13, mi_M14, mi_M15, mi_M16, mi_M17], mi_mok M = true := by decide +kernel
set_option maxRecDepth 100000 in
theorem mi_ok3 : ∀ M ∈ [mi_M18, mi_M19, mi_M20, mi_M21, mi_M22, mi_M23], mi_mok M = true := by decide +kernel
set_option maxRecDepth 100000 in
theorem mi_ok4 : ∀ M ∈ [mi_M24, mi_M25, mi_M26, mi_M27, mi_M28, mi_M29], mi_mok M = true := by decide +kernel
set_option maxRecDepth 100000 in
theorem mi_ok5 : ∀ M ∈ [mi_M30, mi_M31, mi_M32, mi_M33, mi_M34, mi_M35], mi_mok M = true := by decide +kernel
set_option maxRecDepth 100000 in
theorem mi_ok6 : ∀ M ∈ [mi_M36, mi_M37, mi_M38, mi_M39, mi_M40, mi_M41], mi_mok M = true := by decide +kernel
set_option maxRecDepth 100000 in
theorem mi_ok7 : ∀ M ∈ [mi_M42, mi_M43, mi_M44, mi_M45, mi_M46, mi_M47], mi_mok M = true := by decide +kernel
set_option maxRecDepth 100000 in
theorem mi_ok8 : ∀ M ∈ [mi_M48, mi_M49, mi_M50, mi_M51, mi_M52, mi_M53], mi_mok M = true := by decide +kernel
set_option maxRecDepth 100000 in
theorem mi_ok9 : ∀ M ∈ [mi_M54, mi_M55, mi_M56, mi_M57, mi_M58, mi_M59], mi_mok M = true := by decide +kernel
set_option maxRecDepth 100000 in
theorem mi_ok10 : ∀ M ∈ [mi_M60, mi_M61, mi_M62, mi_M63, mi_M64, mi_M65], mi_mok M = true := by decide +kernel
set_option maxRecDepth 100000 in
theorem mi_ok11 : ∀ M ∈ [mi_M66, mi_M67, mi_M68, mi_M69, mi_M70, mi_M71], mi_mok M = true := by decide +kernel
set_option maxRecDepth 100000 in
theorem mi_ok12 : ∀ M ∈ [mi_M72, mi_M73, mi_M74, mi_M75, mi_M76, mi_M77], mi_mok M = true := by decide +kernel
set_option maxRecDepth 100000 in
theorem mi_ok13 : ∀ M ∈ [mi_M78, mi_M79, mi_M80, mi_M81, mi_M82, mi_M83], mi_mok M = true := by decide +kernel
set_option maxRecDepth 100000 in
theorem mi_ok14 : ∀ M ∈ [mi_M84, mi_M85, mi_M86, mi_M87, mi_M88, mi_M89], mi_mok M = true := by decide +kernel
set_option maxRecDepth 100000 in
theorem mi_ok15 : ∀ M ∈ [mi_M90, mi_M91, mi_M92, mi_M93, mi_M94, mi_M95], mi_mok M = true := by decide +kernel
set_option maxRecDepth 100000 in
theorem mi_ok16 : ∀ M ∈ [mi_M96, mi_M97, mi_M98, mi_M99, mi_M100, mi_M101], mi_mok M = true := by decide +kernel
set_option maxRecDepth 100000 in
theorem mi_ok17 : ∀ M ∈ [mi_M102, mi_M103, mi_M104, mi_M105, mi_M106, mi_M107], mi_mok M = true := by decide +kernel
set_option maxRecDepth 100000 in
theorem mi_ok18 : ∀ M ∈ [mi_M108, mi_M109, mi_M110, mi_M111, mi_M112, mi_M113], mi_mok M = true := by decide +kernel
set_option maxRecDepth 100000 in
theorem mi_ok19 : ∀ M ∈ [mi_M114, mi_M115, mi_M116, mi_M117, mi_M118, mi_M119], mi_mok M = true := by decide +kernel
set_option maxRecDepth 100000 in
theorem mi_ok20 : ∀ M ∈ [mi_M120, mi_M121, mi_M122, mi_M123, mi_M124, mi_M125], mi_mok M = true := by decide +kernel
set_option maxRecDepth 100000 in
theorem mi_ok21 : ∀ M ∈ [mi_M126, mi_M127, mi_M128, mi_M129, mi_M130, mi_M131], mi_mok M = true := by decide +kernel
set_option maxRecDepth 100000 in
theorem mi_ok22 : ∀ M ∈ [mi_M132, mi_M133, mi_M134, mi_M135, mi_M136, mi_M137], mi_mok M = true := by decide +kernel
set_option maxRecDepth 100000 in
theorem mi_ok23 : ∀ M ∈ [mi_M138, mi_M139, mi_M140, mi_M141, mi_M142, mi_M143], mi_mok M = true := by decide +kernel
set_option maxRecDepth 100000 in
theorem mi_ok24 : ∀ M ∈ [mi_M144, mi_M145, mi_M146, mi_M147, mi_M148, mi_M149], mi_mok M = true := by decide +kernel
set_option maxRecDepth 100000 in
theorem mi_ok25 : ∀ M ∈ [mi_M150, mi_M151, mi_M152, mi_M153, mi_M154, mi_M155], mi_mok M = true := by decide +kernel
set_option maxRecDepth 100000 in
theorem mi_ok26 : ∀ M ∈ [mi_M156, mi_M157, mi_M158, mi_M159, mi_M160, mi_M161], mi_mok M = true := by decide +kernel
set_option maxRecDepth 100000 in
theorem mi_ok27 : ∀ M ∈ [mi_M162, mi_M163, mi_M164, mi_M165, mi_M166, mi_M167], mi_mok M = true := by decide +kernel
set_option maxRecDepth 100000 in
theorem mi_ok28 : ∀ M ∈ [mi_M168, mi_M169, mi_M170, mi_M171, mi_M172, mi_M173], mi_mok M = true := by decide +kernel
set_option maxRecDepth 100000 in
theorem mi_ok29 : ∀ M ∈ [mi_M174, mi_M175, mi_M176, mi_M177, mi_M178, mi_M179], mi_mok M = true := by decide +kernel
set_option maxRecDepth 100000 in
theorem mi_ok30 : ∀ M ∈ [mi_M180, mi_M181, mi_M182, mi_M183, mi_M184, mi_M185], mi_mok M = true := by decide +kernel
set_option maxRecDepth 100000 in
theorem mi_ok31 : ∀ M ∈ [mi_M186, mi_M187, mi_M188, mi_M189, mi_M190, mi_M191], mi_mok M = true := by decide +kernel
set_option maxRecDepth 100000 in
theorem mi_ok32 : ∀ M ∈ [mi_M192], mi_mok M = true := by decide +kernel
set_option maxRecDepth 100000 in
theorem mi_ok {M : mi_M} (h : M ∈ mi_mt) : mi_mok M = true := by
  have e : mi_mt = [mi_M0, mi_M1, mi_M2, mi_M3, mi_M4, mi_M5] ++ ([mi_M6, mi_M7, mi_M8, mi_M9, mi_M10, mi_M11] ++ ([mi_M12, mi_M13, mi_M14, mi_M15, mi_M16, mi_M17] ++ ([mi_M18, mi_M19, mi_M20, mi_M21, mi_M22, mi_M23] ++ ([mi_M24, mi_M25, mi_M26, mi_M27, mi_M28, mi_M29] ++ ([mi_M30, mi_M31, mi_M32, mi_M33, mi_M34, mi_M35] ++ ([mi_M36, mi_M37, mi_M38, mi_M39, mi_M40, mi_M41] ++ ([mi_M42, mi_M43, mi_M44, mi_M45, mi_M46, mi_M47] ++ ([mi_M48, mi_M49, mi_M50, mi_M51, mi_M52, mi_M53] ++ ([mi_M54, mi_M55, mi_M56, mi_M57, mi_M58, mi_M59] ++ ([mi_M60, mi_M61, mi_M62, mi_M63, mi_M64, mi_M65] ++ ([mi_M66, mi_M67, mi_M68, mi_M69, mi_M70, mi_M71] ++ ([mi_M72, mi_M73, mi_M74, mi_M75, mi_M76, mi_M77] ++ ([mi_M78, mi_M79, mi_M80, mi_M81, mi_M82, mi_M83] ++ ([mi_M84, mi_M85, mi_M86, mi_M87, mi_M88, mi_M89] ++ ([mi_M90, mi_M91, mi_M92, mi_M93, mi_M94, mi_M95] ++ ([mi_M96, mi_M97, mi_M98, mi_M99, mi_M100, mi_M101] ++ ([mi_M102, mi_M103, mi_M104, mi_M105, mi_M106, mi_M107] ++ ([mi_M108, mi_M109, mi_M110, mi_M111, mi_M112, mi_M113] ++ ([mi_M114, mi_M115, mi_M116, mi_M117, mi_M118, mi_M119] ++ ([mi_M120, mi_M121, mi_M122, mi_M123, mi_M124, mi_M125] ++ ([mi_M126, mi_M127, mi_M128, mi_M129, mi_M130, mi_M131] ++ ([mi_M132, mi_M133, mi_M134, mi_M135, mi_M136, mi_M137] ++ ([mi_M138, mi_M139, mi_M140, mi_M141, mi_M142, mi_M143] ++ ([mi_M144, mi_M145, mi_M146, mi_M147, mi_M148, mi_M149] ++ ([mi_M150, mi_M151, mi_M152, mi_M153, mi_M154, mi_M155] ++ ([mi_M156, mi_M157, mi_M158, mi_M159, mi_M160, mi_M161] ++ ([mi_M162, mi_M163, mi_M164, mi_M165, mi_M166, mi_M167] ++ ([mi_M168, mi_M169, mi_M170, mi_M171, mi_M172, mi_M173] ++ ([mi_M174, mi_M175, mi_M176, mi_M177, mi_M178, mi_M179] ++ ([mi_M180, mi_M181, mi_M182, mi_M183, mi_M184, mi_M185] ++ ([mi_M186, mi_M187, mi_M188, mi_M189, mi_M190, mi_M191] ++ ([mi_M192])))))))))))))))))))))))))))))))) := rfl
  rw [e] at h
  rcases List.mem_append.mp h with h | h
  · exact mi_ok0 M h
  rcases List.mem_append.mp h with h | h
  · exact mi_ok1 M h
  rcases List.mem_append.mp h with h | h
  · exact mi_ok2 M h
  rcases List.mem_append.mp h with h | h
  · exact mi_ok3 M h
  rcases List.mem_append.mp h with h | h
  · exact mi_ok4 M h
  rcases List.mem_append.mp h with h | h
  · exact mi_ok5 M h
  rcases List.mem_append.mp h with h | h
  · exact mi_ok6 M h
  rcases List.mem_append.mp h with h | h
  · exact mi_ok7 M h
  rcases List.mem_append.mp h with h | h
  · exact mi_ok8 M h
  rcases List.mem_append.mp h with h | h
  · exact mi_ok9 M h
  rcases List.mem_append.mp h with h | h
  · exact mi_ok10 M h
  rcases List.mem_append.mp h with h | h
  · exact mi_ok11 M h
  rcases List.mem_append.mp h with h | h
  · exact mi_ok12 M h
  rcases List.mem_append.mp h with h | h
  · exact mi_ok13 M h
  rcases List.mem_append.mp h with h | h
  · exact mi_ok14 M h
  rcases List.mem_append.mp h with h | h
  · exact mi_ok15 M h
  rcases List.mem_append.mp h with h | h
  · exact mi_ok16 M h
  rcases List.mem_append.mp h with h | h
  · exact mi_ok17 M h
  rcases List.mem_append.mp h with h | h
  · exact mi_ok18 M h
  rcases List.mem_append.mp h with h | h
  · exact mi_ok19 M h
  rcases List.mem_append.mp h with h | h
  · exact mi_ok20 M h
  rcases List.mem_append.mp h with h | h
  · exact mi_ok21 M h
  rcases List.mem_append.mp h with h | h
  · exact mi_ok22 M h
  rcases List.mem_append.mp h with h | h
  · exact mi_ok23 M h
  rcases List.mem_append.mp h with h | h
  · exact mi_ok24 M h
  rcases List.mem_append.mp h with h | h
  · exact mi_ok25 M h
  rcases List.mem_append.mp h with h | h
  · exact mi_ok26 M h
  rcases List.mem_append.mp h with h | h
  · exact mi_ok27 M h
  rcases List.mem_append.mp h with h | h
  · exact mi_ok28 M h
  rcases List.mem_append.mp h with h | h
  · exact mi_ok29 M h
  rcases List.mem_append.mp h with h | h
  · exact mi_ok30 M h
  rcases List.mem_append.mp h with h | h
  · exact mi_ok31 M h
  exact mi_ok32 M h
