-- resolution tables of the constant pools, with the places of their words in lw_tbl (written by a program)
def ab_own (o : Nat) : String := match o with
  | 0 => RJx4a65c
  | 1 => RX0
  | 2 => RX1
  | 3 => RX2
  | 4 => RX3
  | 5 => RX4
  | 6 => RX5
  | 7 => RX6
  | 8 => RX7
  | 9 => RX8
  | 10 => RX9
  | 11 => RX10
  | 12 => RX11
  | _ => RL
def ab_T (o : Nat) : u_T := match o with
  | 0 => TJx4a65c
  | 1 => TX0
  | 2 => TX1
  | 3 => TX2
  | 4 => TX3
  | 5 => TX4
  | 6 => TX5
  | 7 => TX6
  | 8 => TX7
  | 9 => TX8
  | 10 => TX9
  | 11 => TX10
  | _ => TX11
def ab_ty (o : Nat) : Nat → FieldType := match o with
  | 0 => tyJx4a65c
  | 1 => tyX0
  | 2 => tyX1
  | 3 => tyX2
  | 4 => tyX3
  | 5 => tyX4
  | 6 => tyX5
  | 7 => tyX6
  | 8 => tyX7
  | 9 => tyX8
  | 10 => tyX9
  | 11 => tyX10
  | _ => tyX11
def ab_nf (o : Nat) : Nat := match o with
  | 0 => 3
  | 1 => 8
  | 2 => 4
  | 3 => 4
  | 4 => 11
  | 5 => 11
  | 6 => 2
  | 7 => 9
  | 8 => 7
  | 9 => 5
  | 10 => 7
  | 11 => 14
  | 12 => 83
  | _ => 0
def ab_fT : List (Nat × Nat × Nat × Nat × Nat) := [(1, 14, 1, 4, 1432), (1, 20, 1, 5, 1434), (1, 23, 1, 6, 1436), (1, 26, 1, 0, 1425), (1, 30, 1, 1, 1427), (1, 34, 1, 3, 1431), (1, 37, 1, 2, 1429), (1, 51, 1, 7, 1438), (1, 55, 2, 2, 1206), (2, 10, 2, 3, 1207), (2, 16, 2, 0, 1201), (2, 20, 2, 1, 1203), (2, 23, 2, 2, 1205), (2, 40, 8, 6, 1326), (2, 44, 8, 0, 1318), (3, 14, 3, 0, 353), (3, 20, 3, 1, 354), (3, 24, 3, 2, 355), (3, 37, 3, 3, 356), (4, 12, 4, 0, 223), (4, 23, 4, 1, 227), (4, 27, 4, 2, 228), (4, 30, 4, 3, 229), (4, 33, 4, 4, 230), (4, 36, 4, 5, 231), (4, 39, 4, 6, 232), (4, 42, 4, 7, 233), (4, 45, 4, 8, 234), (4, 48, 4, 9, 235), (4, 87, 9, 0, 202), (5, 14, 5, 6, 277), (5, 20, 5, 7, 278), (5, 23, 5, 8, 279), (5, 26, 5, 9, 280), (5, 29, 5, 10, 281), (5, 32, 5, 0, 271), (5, 36, 4, 0, 225), (5, 42, 5, 1, 272), (5, 46, 5, 2, 273), (5, 56, 5, 3, 274), (5, 59, 5, 4, 275), (5, 62, 5, 5, 276), (5, 87, 4, 9, 236), (5, 90, 9, 0, 201), (5, 93, 4, 10, 238), (5, 163, 9, 1, 205), (6, 9, 6, 0, 177), (6, 15, 6, 1, 178), (7, 14, 7, 0, 317), (7, 20, 7, 1, 318), (7, 23, 7, 2, 319), (7, 26, 7, 3, 320), (7, 29, 7, 8, 325), (7, 39, 7, 4, 321), (7, 42, 7, 5, 322), (7, 45, 7, 6, 323), (7, 48, 7, 7, 324), (8, 9, 8, 0, 1317), (8, 15, 8, 1, 1319), (8, 18, 8, 2, 1321), (8, 21, 8, 3, 1323), (8, 24, 8, 4, 1324), (8, 27, 8, 5, 1325), (9, 14, 9, 0, 199), (9, 20, 9, 1, 203), (9, 23, 9, 2, 206), (9, 26, 9, 3, 208), (9, 29, 9, 4, 209), (10, 14, 10, 0, 374), (10, 20, 10, 1, 375), (10, 23, 10, 2, 376), (10, 27, 4, 0, 224), (10, 33, 10, 3, 377), (10, 34, 10, 4, 378), (10, 47, 10, 5, 379), (10, 51, 10, 6, 380), (10, 68, 9, 0, 200), (10, 83, 9, 1, 204), (11, 14, 11, 0, 422), (11, 21, 11, 1, 423), (11, 30, 11, 4, 426), (11, 37, 11, 5, 427), (11, 41, 11, 6, 428), (11, 49, 11, 7, 429), (11, 56, 11, 8, 430), (11, 63, 11, 9, 431), (11, 67, 11, 10, 432), (11, 70, 11, 11, 433), (11, 73, 11, 12, 434), (11, 94, 11, 2, 424), (11, 118, 4, 9, 237), (11, 122, 4, 0, 226), (11, 126, 9, 2, 207), (11, 131, 4, 10, 239), (11, 167, 11, 13, 435), (11, 210, 1, 1, 1428), (11, 214, 2, 0, 1202), (11, 225, 8, 6, 1327), (11, 248, 11, 3, 425), (11, 251, 1, 6, 1437), (11, 254, 1, 2, 1430), (11, 265, 1, 5, 1435), (11, 268, 1, 4, 1433), (11, 275, 2, 1, 1204), (11, 277, 8, 1, 1320), (11, 280, 8, 2, 1322), (11, 290, 1, 0, 1426), (11, 308, 1, 7, 1439), (12, 7, 12, 1, 1596), (12, 13, 12, 2, 1597), (12, 16, 12, 3, 1598), (12, 19, 12, 12, 1607), (12, 23, 12, 13, 1608), (12, 26, 12, 15, 1610), (12, 29, 12, 17, 1612), (12, 32, 12, 18, 1613), (12, 35, 12, 19, 1614), (12, 38, 12, 20, 1615), (12, 41, 12, 21, 1616), (12, 44, 12, 23, 1618), (12, 47, 12, 24, 1619), (12, 50, 12, 25, 1620), (12, 53, 12, 26, 1621), (12, 56, 12, 28, 1623), (12, 59, 12, 29, 1624), (12, 62, 12, 30, 1625), (12, 65, 12, 31, 1626), (12, 68, 12, 36, 1631), (12, 71, 12, 37, 1632), (12, 74, 12, 39, 1634), (12, 77, 12, 40, 1635), (12, 80, 12, 41, 1636), (12, 83, 12, 42, 1637), (12, 86, 12, 45, 1640), (12, 89, 12, 46, 1641), (12, 92, 12, 47, 1642), (12, 95, 12, 48, 1643), (12, 99, 12, 54, 1649), (12, 102, 12, 55, 1650), (12, 105, 12, 56, 1651), (12, 108, 12, 58, 1653), (12, 111, 12, 59, 1654), (12, 114, 12, 61, 1656), (12, 117, 12, 62, 1657), (12, 120, 12, 66, 1661), (12, 123, 12, 67, 1662), (12, 126, 12, 68, 1663), (12, 129, 12, 69, 1664), (12, 132, 12, 70, 1665), (12, 135, 12, 71, 1666), (12, 138, 12, 72, 1667), (12, 141, 12, 73, 1668), (12, 144, 12, 75, 1670), (12, 147, 12, 76, 1671), (12, 150, 12, 77, 1672), (12, 153, 12, 78, 1673), (12, 156, 12, 79, 1674), (12, 159, 12, 80, 1675), (12, 162, 12, 81, 1676), (12, 165, 12, 82, 1677), (12, 189, 12, 0, 1595), (12, 196, 12, 4, 1599), (12, 199, 12, 7, 1602), (12, 213, 12, 8, 1603), (12, 219, 12, 6, 1601), (12, 240, 12, 5, 1600), (12, 254, 12, 9, 1604), (12, 257, 12, 10, 1605), (12, 260, 12, 11, 1606), (12, 263, 12, 14, 1609), (12, 266, 12, 32, 1627), (12, 269, 12, 16, 1611), (12, 272, 12, 43, 1638), (12, 275, 12, 35, 1630), (12, 278, 12, 33, 1628), (12, 285, 12, 34, 1629), (12, 295, 12, 22, 1617), (12, 308, 12, 27, 1622), (12, 326, 12, 38, 1633), (12, 410, 12, 49, 1644), (12, 413, 12, 50, 1645), (12, 416, 12, 53, 1648), (12, 440, 12, 57, 1652), (12, 443, 12, 52, 1647), (12, 458, 12, 51, 1646), (12, 488, 12, 60, 1655), (12, 491, 12, 63, 1658), (12, 497, 12, 65, 1660), (12, 505, 12, 64, 1659), (12, 512, 12, 74, 1669), (12, 544, 12, 44, 1639)]
def ab_fR (o i : Nat) : Option (Nat × Nat) := (ab_fT.find? (fun q => q.2.1 == i && q.1 == o)).map (fun q => (q.2.2.1, q.2.2.2.1))
theorem ab_fT_ok : ab_fT.all (fun q => decide (lw_tbl[q.2.2.2.2]? = some (.fieldLink (ab_own q.1) q.2.1 (ab_T q.2.2.1 q.2.2.2.1).1 (ab_T q.2.2.1 q.2.2.2.1).2.1 (ab_T q.2.2.1 q.2.2.2.1).2.2.1)) && decide (q.2.2.2.1 < ab_nf q.2.2.1) && decide (q.2.2.1 < 13) && decide (q.1 < 14)) = true := by decide +kernel
theorem fR_1_14 : ab_fR 1 14 = some (1, 4) := by decide +kernel
theorem fR_1_20 : ab_fR 1 20 = some (1, 5) := by decide +kernel
theorem fR_1_23 : ab_fR 1 23 = some (1, 6) := by decide +kernel
theorem fR_1_26 : ab_fR 1 26 = some (1, 0) := by decide +kernel
theorem fR_1_30 : ab_fR 1 30 = some (1, 1) := by decide +kernel
theorem fR_1_34 : ab_fR 1 34 = some (1, 3) := by decide +kernel
theorem fR_1_37 : ab_fR 1 37 = some (1, 2) := by decide +kernel
theorem fR_1_51 : ab_fR 1 51 = some (1, 7) := by decide +kernel
theorem fR_1_55 : ab_fR 1 55 = some (2, 2) := by decide +kernel
theorem fR_2_10 : ab_fR 2 10 = some (2, 3) := by decide +kernel
theorem fR_2_16 : ab_fR 2 16 = some (2, 0) := by decide +kernel
theorem fR_2_20 : ab_fR 2 20 = some (2, 1) := by decide +kernel
theorem fR_2_23 : ab_fR 2 23 = some (2, 2) := by decide +kernel
theorem fR_2_40 : ab_fR 2 40 = some (8, 6) := by decide +kernel
theorem fR_2_44 : ab_fR 2 44 = some (8, 0) := by decide +kernel
theorem fR_3_14 : ab_fR 3 14 = some (3, 0) := by decide +kernel
theorem fR_3_20 : ab_fR 3 20 = some (3, 1) := by decide +kernel
theorem fR_3_24 : ab_fR 3 24 = some (3, 2) := by decide +kernel
theorem fR_3_37 : ab_fR 3 37 = some (3, 3) := by decide +kernel
theorem fR_4_12 : ab_fR 4 12 = some (4, 0) := by decide +kernel
theorem fR_4_23 : ab_fR 4 23 = some (4, 1) := by decide +kernel
theorem fR_4_27 : ab_fR 4 27 = some (4, 2) := by decide +kernel
theorem fR_4_30 : ab_fR 4 30 = some (4, 3) := by decide +kernel
theorem fR_4_33 : ab_fR 4 33 = some (4, 4) := by decide +kernel
theorem fR_4_36 : ab_fR 4 36 = some (4, 5) := by decide +kernel
theorem fR_4_39 : ab_fR 4 39 = some (4, 6) := by decide +kernel
theorem fR_4_42 : ab_fR 4 42 = some (4, 7) := by decide +kernel
theorem fR_4_45 : ab_fR 4 45 = some (4, 8) := by decide +kernel
theorem fR_4_48 : ab_fR 4 48 = some (4, 9) := by decide +kernel
theorem fR_4_87 : ab_fR 4 87 = some (9, 0) := by decide +kernel
theorem fR_5_14 : ab_fR 5 14 = some (5, 6) := by decide +kernel
theorem fR_5_20 : ab_fR 5 20 = some (5, 7) := by decide +kernel
theorem fR_5_23 : ab_fR 5 23 = some (5, 8) := by decide +kernel
theorem fR_5_26 : ab_fR 5 26 = some (5, 9) := by decide +kernel
theorem fR_5_29 : ab_fR 5 29 = some (5, 10) := by decide +kernel
theorem fR_5_32 : ab_fR 5 32 = some (5, 0) := by decide +kernel
theorem fR_5_36 : ab_fR 5 36 = some (4, 0) := by decide +kernel
theorem fR_5_42 : ab_fR 5 42 = some (5, 1) := by decide +kernel
theorem fR_5_46 : ab_fR 5 46 = some (5, 2) := by decide +kernel
theorem fR_5_56 : ab_fR 5 56 = some (5, 3) := by decide +kernel
theorem fR_5_59 : ab_fR 5 59 = some (5, 4) := by decide +kernel
theorem fR_5_62 : ab_fR 5 62 = some (5, 5) := by decide +kernel
theorem fR_5_87 : ab_fR 5 87 = some (4, 9) := by decide +kernel
theorem fR_5_90 : ab_fR 5 90 = some (9, 0) := by decide +kernel
theorem fR_5_93 : ab_fR 5 93 = some (4, 10) := by decide +kernel
theorem fR_5_163 : ab_fR 5 163 = some (9, 1) := by decide +kernel
theorem fR_6_9 : ab_fR 6 9 = some (6, 0) := by decide +kernel
theorem fR_6_15 : ab_fR 6 15 = some (6, 1) := by decide +kernel
theorem fR_7_14 : ab_fR 7 14 = some (7, 0) := by decide +kernel
theorem fR_7_20 : ab_fR 7 20 = some (7, 1) := by decide +kernel
theorem fR_7_23 : ab_fR 7 23 = some (7, 2) := by decide +kernel
theorem fR_7_26 : ab_fR 7 26 = some (7, 3) := by decide +kernel
theorem fR_7_29 : ab_fR 7 29 = some (7, 8) := by decide +kernel
theorem fR_7_39 : ab_fR 7 39 = some (7, 4) := by decide +kernel
theorem fR_7_42 : ab_fR 7 42 = some (7, 5) := by decide +kernel
theorem fR_7_45 : ab_fR 7 45 = some (7, 6) := by decide +kernel
theorem fR_7_48 : ab_fR 7 48 = some (7, 7) := by decide +kernel
theorem fR_8_9 : ab_fR 8 9 = some (8, 0) := by decide +kernel
theorem fR_8_15 : ab_fR 8 15 = some (8, 1) := by decide +kernel
theorem fR_8_18 : ab_fR 8 18 = some (8, 2) := by decide +kernel
theorem fR_8_21 : ab_fR 8 21 = some (8, 3) := by decide +kernel
theorem fR_8_24 : ab_fR 8 24 = some (8, 4) := by decide +kernel
theorem fR_8_27 : ab_fR 8 27 = some (8, 5) := by decide +kernel
theorem fR_9_14 : ab_fR 9 14 = some (9, 0) := by decide +kernel
theorem fR_9_20 : ab_fR 9 20 = some (9, 1) := by decide +kernel
theorem fR_9_23 : ab_fR 9 23 = some (9, 2) := by decide +kernel
theorem fR_9_26 : ab_fR 9 26 = some (9, 3) := by decide +kernel
theorem fR_9_29 : ab_fR 9 29 = some (9, 4) := by decide +kernel
theorem fR_10_14 : ab_fR 10 14 = some (10, 0) := by decide +kernel
theorem fR_10_20 : ab_fR 10 20 = some (10, 1) := by decide +kernel
theorem fR_10_23 : ab_fR 10 23 = some (10, 2) := by decide +kernel
theorem fR_10_27 : ab_fR 10 27 = some (4, 0) := by decide +kernel
theorem fR_10_33 : ab_fR 10 33 = some (10, 3) := by decide +kernel
theorem fR_10_34 : ab_fR 10 34 = some (10, 4) := by decide +kernel
theorem fR_10_47 : ab_fR 10 47 = some (10, 5) := by decide +kernel
theorem fR_10_51 : ab_fR 10 51 = some (10, 6) := by decide +kernel
theorem fR_10_68 : ab_fR 10 68 = some (9, 0) := by decide +kernel
theorem fR_10_83 : ab_fR 10 83 = some (9, 1) := by decide +kernel
theorem fR_11_14 : ab_fR 11 14 = some (11, 0) := by decide +kernel
theorem fR_11_21 : ab_fR 11 21 = some (11, 1) := by decide +kernel
theorem fR_11_30 : ab_fR 11 30 = some (11, 4) := by decide +kernel
theorem fR_11_37 : ab_fR 11 37 = some (11, 5) := by decide +kernel
theorem fR_11_41 : ab_fR 11 41 = some (11, 6) := by decide +kernel
theorem fR_11_49 : ab_fR 11 49 = some (11, 7) := by decide +kernel
theorem fR_11_56 : ab_fR 11 56 = some (11, 8) := by decide +kernel
theorem fR_11_63 : ab_fR 11 63 = some (11, 9) := by decide +kernel
theorem fR_11_67 : ab_fR 11 67 = some (11, 10) := by decide +kernel
theorem fR_11_70 : ab_fR 11 70 = some (11, 11) := by decide +kernel
theorem fR_11_73 : ab_fR 11 73 = some (11, 12) := by decide +kernel
theorem fR_11_94 : ab_fR 11 94 = some (11, 2) := by decide +kernel
theorem fR_11_118 : ab_fR 11 118 = some (4, 9) := by decide +kernel
theorem fR_11_122 : ab_fR 11 122 = some (4, 0) := by decide +kernel
theorem fR_11_126 : ab_fR 11 126 = some (9, 2) := by decide +kernel
theorem fR_11_131 : ab_fR 11 131 = some (4, 10) := by decide +kernel
theorem fR_11_167 : ab_fR 11 167 = some (11, 13) := by decide +kernel
theorem fR_11_210 : ab_fR 11 210 = some (1, 1) := by decide +kernel
theorem fR_11_214 : ab_fR 11 214 = some (2, 0) := by decide +kernel
theorem fR_11_225 : ab_fR 11 225 = some (8, 6) := by decide +kernel
theorem fR_11_248 : ab_fR 11 248 = some (11, 3) := by decide +kernel
theorem fR_11_251 : ab_fR 11 251 = some (1, 6) := by decide +kernel
theorem fR_11_254 : ab_fR 11 254 = some (1, 2) := by decide +kernel
theorem fR_11_265 : ab_fR 11 265 = some (1, 5) := by decide +kernel
theorem fR_11_268 : ab_fR 11 268 = some (1, 4) := by decide +kernel
theorem fR_11_275 : ab_fR 11 275 = some (2, 1) := by decide +kernel
theorem fR_11_277 : ab_fR 11 277 = some (8, 1) := by decide +kernel
theorem fR_11_280 : ab_fR 11 280 = some (8, 2) := by decide +kernel
theorem fR_11_290 : ab_fR 11 290 = some (1, 0) := by decide +kernel
theorem fR_11_308 : ab_fR 11 308 = some (1, 7) := by decide +kernel
theorem fR_12_7 : ab_fR 12 7 = some (12, 1) := by decide +kernel
theorem fR_12_13 : ab_fR 12 13 = some (12, 2) := by decide +kernel
theorem fR_12_16 : ab_fR 12 16 = some (12, 3) := by decide +kernel
theorem fR_12_19 : ab_fR 12 19 = some (12, 12) := by decide +kernel
theorem fR_12_23 : ab_fR 12 23 = some (12, 13) := by decide +kernel
theorem fR_12_26 : ab_fR 12 26 = some (12, 15) := by decide +kernel
theorem fR_12_29 : ab_fR 12 29 = some (12, 17) := by decide +kernel
theorem fR_12_32 : ab_fR 12 32 = some (12, 18) := by decide +kernel
theorem fR_12_35 : ab_fR 12 35 = some (12, 19) := by decide +kernel
theorem fR_12_38 : ab_fR 12 38 = some (12, 20) := by decide +kernel
theorem fR_12_41 : ab_fR 12 41 = some (12, 21) := by decide +kernel
theorem fR_12_44 : ab_fR 12 44 = some (12, 23) := by decide +kernel
theorem fR_12_47 : ab_fR 12 47 = some (12, 24) := by decide +kernel
theorem fR_12_50 : ab_fR 12 50 = some (12, 25) := by decide +kernel
theorem fR_12_53 : ab_fR 12 53 = some (12, 26) := by decide +kernel
theorem fR_12_56 : ab_fR 12 56 = some (12, 28) := by decide +kernel
theorem fR_12_59 : ab_fR 12 59 = some (12, 29) := by decide +kernel
theorem fR_12_62 : ab_fR 12 62 = some (12, 30) := by decide +kernel
theorem fR_12_65 : ab_fR 12 65 = some (12, 31) := by decide +kernel
theorem fR_12_68 : ab_fR 12 68 = some (12, 36) := by decide +kernel
theorem fR_12_71 : ab_fR 12 71 = some (12, 37) := by decide +kernel
theorem fR_12_74 : ab_fR 12 74 = some (12, 39) := by decide +kernel
theorem fR_12_77 : ab_fR 12 77 = some (12, 40) := by decide +kernel
theorem fR_12_80 : ab_fR 12 80 = some (12, 41) := by decide +kernel
theorem fR_12_83 : ab_fR 12 83 = some (12, 42) := by decide +kernel
theorem fR_12_86 : ab_fR 12 86 = some (12, 45) := by decide +kernel
theorem fR_12_89 : ab_fR 12 89 = some (12, 46) := by decide +kernel
theorem fR_12_92 : ab_fR 12 92 = some (12, 47) := by decide +kernel
theorem fR_12_95 : ab_fR 12 95 = some (12, 48) := by decide +kernel
theorem fR_12_99 : ab_fR 12 99 = some (12, 54) := by decide +kernel
theorem fR_12_102 : ab_fR 12 102 = some (12, 55) := by decide +kernel
theorem fR_12_105 : ab_fR 12 105 = some (12, 56) := by decide +kernel
theorem fR_12_108 : ab_fR 12 108 = some (12, 58) := by decide +kernel
theorem fR_12_111 : ab_fR 12 111 = some (12, 59) := by decide +kernel
theorem fR_12_114 : ab_fR 12 114 = some (12, 61) := by decide +kernel
theorem fR_12_117 : ab_fR 12 117 = some (12, 62) := by decide +kernel
theorem fR_12_120 : ab_fR 12 120 = some (12, 66) := by decide +kernel
theorem fR_12_123 : ab_fR 12 123 = some (12, 67) := by decide +kernel
theorem fR_12_126 : ab_fR 12 126 = some (12, 68) := by decide +kernel
theorem fR_12_129 : ab_fR 12 129 = some (12, 69) := by decide +kernel
theorem fR_12_132 : ab_fR 12 132 = some (12, 70) := by decide +kernel
theorem fR_12_135 : ab_fR 12 135 = some (12, 71) := by decide +kernel
theorem fR_12_138 : ab_fR 12 138 = some (12, 72) := by decide +kernel
theorem fR_12_141 : ab_fR 12 141 = some (12, 73) := by decide +kernel
theorem fR_12_144 : ab_fR 12 144 = some (12, 75) := by decide +kernel
theorem fR_12_147 : ab_fR 12 147 = some (12, 76) := by decide +kernel
theorem fR_12_150 : ab_fR 12 150 = some (12, 77) := by decide +kernel
theorem fR_12_153 : ab_fR 12 153 = some (12, 78) := by decide +kernel
theorem fR_12_156 : ab_fR 12 156 = some (12, 79) := by decide +kernel
theorem fR_12_159 : ab_fR 12 159 = some (12, 80) := by decide +kernel
theorem fR_12_162 : ab_fR 12 162 = some (12, 81) := by decide +kernel
theorem fR_12_165 : ab_fR 12 165 = some (12, 82) := by decide +kernel
theorem fR_12_189 : ab_fR 12 189 = some (12, 0) := by decide +kernel
theorem fR_12_196 : ab_fR 12 196 = some (12, 4) := by decide +kernel
theorem fR_12_199 : ab_fR 12 199 = some (12, 7) := by decide +kernel
theorem fR_12_213 : ab_fR 12 213 = some (12, 8) := by decide +kernel
theorem fR_12_219 : ab_fR 12 219 = some (12, 6) := by decide +kernel
theorem fR_12_240 : ab_fR 12 240 = some (12, 5) := by decide +kernel
theorem fR_12_254 : ab_fR 12 254 = some (12, 9) := by decide +kernel
theorem fR_12_257 : ab_fR 12 257 = some (12, 10) := by decide +kernel
theorem fR_12_260 : ab_fR 12 260 = some (12, 11) := by decide +kernel
theorem fR_12_263 : ab_fR 12 263 = some (12, 14) := by decide +kernel
theorem fR_12_266 : ab_fR 12 266 = some (12, 32) := by decide +kernel
theorem fR_12_269 : ab_fR 12 269 = some (12, 16) := by decide +kernel
theorem fR_12_272 : ab_fR 12 272 = some (12, 43) := by decide +kernel
theorem fR_12_275 : ab_fR 12 275 = some (12, 35) := by decide +kernel
theorem fR_12_278 : ab_fR 12 278 = some (12, 33) := by decide +kernel
theorem fR_12_285 : ab_fR 12 285 = some (12, 34) := by decide +kernel
theorem fR_12_295 : ab_fR 12 295 = some (12, 22) := by decide +kernel
theorem fR_12_308 : ab_fR 12 308 = some (12, 27) := by decide +kernel
theorem fR_12_326 : ab_fR 12 326 = some (12, 38) := by decide +kernel
theorem fR_12_410 : ab_fR 12 410 = some (12, 49) := by decide +kernel
theorem fR_12_413 : ab_fR 12 413 = some (12, 50) := by decide +kernel
theorem fR_12_416 : ab_fR 12 416 = some (12, 53) := by decide +kernel
theorem fR_12_440 : ab_fR 12 440 = some (12, 57) := by decide +kernel
theorem fR_12_443 : ab_fR 12 443 = some (12, 52) := by decide +kernel
theorem fR_12_458 : ab_fR 12 458 = some (12, 51) := by decide +kernel
theorem fR_12_488 : ab_fR 12 488 = some (12, 60) := by decide +kernel
theorem fR_12_491 : ab_fR 12 491 = some (12, 63) := by decide +kernel
theorem fR_12_497 : ab_fR 12 497 = some (12, 65) := by decide +kernel
theorem fR_12_505 : ab_fR 12 505 = some (12, 64) := by decide +kernel
theorem fR_12_512 : ab_fR 12 512 = some (12, 74) := by decide +kernel
theorem fR_12_544 : ab_fR 12 544 = some (12, 44) := by decide +kernel
theorem ft_0_0 : ab_ty 0 0 = .int := rfl
theorem fn_0_0 : (ab_T 0 0).2.2.2 = false := rfl
theorem ft_0_1 : ab_ty 0 1 = .array (.object "java/lang/Object") := rfl
theorem fn_0_1 : (ab_T 0 1).2.2.2 = false := rfl
theorem ft_0_2 : ab_ty 0 2 = .int := rfl
theorem fn_0_2 : (ab_T 0 2).2.2.2 = false := rfl
theorem ft_1_0 : ab_ty 1 0 = .int := rfl
theorem fn_1_0 : (ab_T 1 0).2.2.2 = true := rfl
theorem ft_1_1 : ab_ty 1 1 = .object "ProgramSchool$Exercise" := rfl
theorem fn_1_1 : (ab_T 1 1).2.2.2 = true := rfl
theorem ft_1_2 : ab_ty 1 2 = .object "ProgramSchool$Program" := rfl
theorem fn_1_2 : (ab_T 1 2).2.2.2 = true := rfl
theorem ft_1_3 : ab_ty 1 3 = .int := rfl
theorem fn_1_3 : (ab_T 1 3).2.2.2 = true := rfl
theorem ft_1_4 : ab_ty 1 4 = .object "ProgramSchool$Row" := rfl
theorem fn_1_4 : (ab_T 1 4).2.2.2 = true := rfl
theorem ft_1_5 : ab_ty 1 5 = .object "ProgramSchool$Row" := rfl
theorem fn_1_5 : (ab_T 1 5).2.2.2 = true := rfl
theorem ft_1_6 : ab_ty 1 6 = .object "ProgramSchool$Row" := rfl
theorem fn_1_6 : (ab_T 1 6).2.2.2 = true := rfl
theorem ft_1_7 : ab_ty 1 7 = .boolean := rfl
theorem fn_1_7 : (ab_T 1 7).2.2.2 = false := rfl
theorem ft_2_0 : ab_ty 2 0 = .int := rfl
theorem fn_2_0 : (ab_T 2 0).2.2.2 = true := rfl
theorem ft_2_1 : ab_ty 2 1 = .int := rfl
theorem fn_2_1 : (ab_T 2 1).2.2.2 = true := rfl
theorem ft_2_2 : ab_ty 2 2 = .int := rfl
theorem fn_2_2 : (ab_T 2 2).2.2.2 = true := rfl
theorem ft_2_3 : ab_ty 2 3 = .object "java/util/ArrayList" := rfl
theorem fn_2_3 : (ab_T 2 3).2.2.2 = true := rfl
theorem ft_3_0 : ab_ty 3 0 = .object "ProgramSchool$Row" := rfl
theorem fn_3_0 : (ab_T 3 0).2.2.2 = true := rfl
theorem ft_3_1 : ab_ty 3 1 = .object "ProgramSchool$Program" := rfl
theorem fn_3_1 : (ab_T 3 1).2.2.2 = false := rfl
theorem ft_3_2 : ab_ty 3 2 = .object "ProgramSchool$Run" := rfl
theorem fn_3_2 : (ab_T 3 2).2.2.2 = false := rfl
theorem ft_3_3 : ab_ty 3 3 = .int := rfl
theorem fn_3_3 : (ab_T 3 3).2.2.2 = false := rfl
theorem ft_4_0 : ab_ty 4 0 = .object "ProgramSchool$Tokens" := rfl
theorem fn_4_0 : (ab_T 4 0).2.2.2 = true := rfl
theorem ft_4_1 : ab_ty 4 1 = .object "ProgramSchool$Row" := rfl
theorem fn_4_1 : (ab_T 4 1).2.2.2 = true := rfl
theorem ft_4_2 : ab_ty 4 2 = .object "ProgramSchool$Row" := rfl
theorem fn_4_2 : (ab_T 4 2).2.2.2 = true := rfl
theorem ft_4_3 : ab_ty 4 3 = .object "ProgramSchool$Row" := rfl
theorem fn_4_3 : (ab_T 4 3).2.2.2 = true := rfl
theorem ft_4_4 : ab_ty 4 4 = .object "ProgramSchool$Row" := rfl
theorem fn_4_4 : (ab_T 4 4).2.2.2 = true := rfl
theorem ft_4_5 : ab_ty 4 5 = .object "ProgramSchool$Row" := rfl
theorem fn_4_5 : (ab_T 4 5).2.2.2 = true := rfl
theorem ft_4_6 : ab_ty 4 6 = .object "ProgramSchool$Row" := rfl
theorem fn_4_6 : (ab_T 4 6).2.2.2 = true := rfl
theorem ft_4_7 : ab_ty 4 7 = .object "ProgramSchool$Row" := rfl
theorem fn_4_7 : (ab_T 4 7).2.2.2 = true := rfl
theorem ft_4_8 : ab_ty 4 8 = .object "ProgramSchool$Row" := rfl
theorem fn_4_8 : (ab_T 4 8).2.2.2 = true := rfl
theorem ft_4_9 : ab_ty 4 9 = .int := rfl
theorem fn_4_9 : (ab_T 4 9).2.2.2 = false := rfl
theorem ft_4_10 : ab_ty 4 10 = .int := rfl
theorem fn_4_10 : (ab_T 4 10).2.2.2 = false := rfl
theorem ft_5_0 : ab_ty 5 0 = .object "ProgramSchool$Program" := rfl
theorem fn_5_0 : (ab_T 5 0).2.2.2 = false := rfl
theorem ft_5_1 : ab_ty 5 1 = .object "ProgramSchool$Tokens" := rfl
theorem fn_5_1 : (ab_T 5 1).2.2.2 = false := rfl
theorem ft_5_2 : ab_ty 5 2 = .int := rfl
theorem fn_5_2 : (ab_T 5 2).2.2.2 = false := rfl
theorem ft_5_3 : ab_ty 5 3 = .int := rfl
theorem fn_5_3 : (ab_T 5 3).2.2.2 = false := rfl
theorem ft_5_4 : ab_ty 5 4 = .int := rfl
theorem fn_5_4 : (ab_T 5 4).2.2.2 = false := rfl
theorem ft_5_5 : ab_ty 5 5 = .boolean := rfl
theorem fn_5_5 : (ab_T 5 5).2.2.2 = false := rfl
theorem ft_5_6 : ab_ty 5 6 = .object "ProgramSchool$Row" := rfl
theorem fn_5_6 : (ab_T 5 6).2.2.2 = true := rfl
theorem ft_5_7 : ab_ty 5 7 = .object "ProgramSchool$Row" := rfl
theorem fn_5_7 : (ab_T 5 7).2.2.2 = true := rfl
theorem ft_5_8 : ab_ty 5 8 = .object "ProgramSchool$Row" := rfl
theorem fn_5_8 : (ab_T 5 8).2.2.2 = true := rfl
theorem ft_5_9 : ab_ty 5 9 = .object "ProgramSchool$Row" := rfl
theorem fn_5_9 : (ab_T 5 9).2.2.2 = true := rfl
theorem ft_5_10 : ab_ty 5 10 = .object "ProgramSchool$Row" := rfl
theorem fn_5_10 : (ab_T 5 10).2.2.2 = true := rfl
theorem ft_6_0 : ab_ty 6 0 = .array .int := rfl
theorem fn_6_0 : (ab_T 6 0).2.2.2 = true := rfl
theorem ft_6_1 : ab_ty 6 1 = .int := rfl
theorem fn_6_1 : (ab_T 6 1).2.2.2 = false := rfl
theorem ft_7_0 : ab_ty 7 0 = .object "ProgramSchool$Row" := rfl
theorem fn_7_0 : (ab_T 7 0).2.2.2 = true := rfl
theorem ft_7_1 : ab_ty 7 1 = .object "ProgramSchool$Row" := rfl
theorem fn_7_1 : (ab_T 7 1).2.2.2 = true := rfl
theorem ft_7_2 : ab_ty 7 2 = .object "ProgramSchool$Row" := rfl
theorem fn_7_2 : (ab_T 7 2).2.2.2 = true := rfl
theorem ft_7_3 : ab_ty 7 3 = .object "ProgramSchool$Row" := rfl
theorem fn_7_3 : (ab_T 7 3).2.2.2 = true := rfl
theorem ft_7_4 : ab_ty 7 4 = .int := rfl
theorem fn_7_4 : (ab_T 7 4).2.2.2 = false := rfl
theorem ft_7_5 : ab_ty 7 5 = .int := rfl
theorem fn_7_5 : (ab_T 7 5).2.2.2 = false := rfl
theorem ft_7_6 : ab_ty 7 6 = .int := rfl
theorem fn_7_6 : (ab_T 7 6).2.2.2 = false := rfl
theorem ft_7_7 : ab_ty 7 7 = .int := rfl
theorem fn_7_7 : (ab_T 7 7).2.2.2 = false := rfl
theorem ft_7_8 : ab_ty 7 8 = .int := rfl
theorem fn_7_8 : (ab_T 7 8).2.2.2 = false := rfl
theorem ft_8_0 : ab_ty 8 0 = .int := rfl
theorem fn_8_0 : (ab_T 8 0).2.2.2 = true := rfl
theorem ft_8_1 : ab_ty 8 1 = .int := rfl
theorem fn_8_1 : (ab_T 8 1).2.2.2 = true := rfl
theorem ft_8_2 : ab_ty 8 2 = .int := rfl
theorem fn_8_2 : (ab_T 8 2).2.2.2 = true := rfl
theorem ft_8_3 : ab_ty 8 3 = .int := rfl
theorem fn_8_3 : (ab_T 8 3).2.2.2 = true := rfl
theorem ft_8_4 : ab_ty 8 4 = .int := rfl
theorem fn_8_4 : (ab_T 8 4).2.2.2 = true := rfl
theorem ft_8_5 : ab_ty 8 5 = .int := rfl
theorem fn_8_5 : (ab_T 8 5).2.2.2 = true := rfl
theorem ft_8_6 : ab_ty 8 6 = .boolean := rfl
theorem fn_8_6 : (ab_T 8 6).2.2.2 = false := rfl
theorem ft_9_0 : ab_ty 9 0 = .object "ProgramSchool$Row" := rfl
theorem fn_9_0 : (ab_T 9 0).2.2.2 = true := rfl
theorem ft_9_1 : ab_ty 9 1 = .object "ProgramSchool$Row" := rfl
theorem fn_9_1 : (ab_T 9 1).2.2.2 = true := rfl
theorem ft_9_2 : ab_ty 9 2 = .object "ProgramSchool$Row" := rfl
theorem fn_9_2 : (ab_T 9 2).2.2.2 = true := rfl
theorem ft_9_3 : ab_ty 9 3 = .object "ProgramSchool$Row" := rfl
theorem fn_9_3 : (ab_T 9 3).2.2.2 = true := rfl
theorem ft_9_4 : ab_ty 9 4 = .object "ProgramSchool$Row" := rfl
theorem fn_9_4 : (ab_T 9 4).2.2.2 = true := rfl
theorem ft_10_0 : ab_ty 10 0 = .object "ProgramSchool$Row" := rfl
theorem fn_10_0 : (ab_T 10 0).2.2.2 = true := rfl
theorem ft_10_1 : ab_ty 10 1 = .object "ProgramSchool$Row" := rfl
theorem fn_10_1 : (ab_T 10 1).2.2.2 = true := rfl
theorem ft_10_2 : ab_ty 10 2 = .object "ProgramSchool$Program" := rfl
theorem fn_10_2 : (ab_T 10 2).2.2.2 = false := rfl
theorem ft_10_3 : ab_ty 10 3 = .object "ProgramSchool$Tokens" := rfl
theorem fn_10_3 : (ab_T 10 3).2.2.2 = false := rfl
theorem ft_10_4 : ab_ty 10 4 = .object "ProgramSchool$Run" := rfl
theorem fn_10_4 : (ab_T 10 4).2.2.2 = false := rfl
theorem ft_10_5 : ab_ty 10 5 = .int := rfl
theorem fn_10_5 : (ab_T 10 5).2.2.2 = false := rfl
theorem ft_10_6 : ab_ty 10 6 = .int := rfl
theorem fn_10_6 : (ab_T 10 6).2.2.2 = false := rfl
theorem ft_11_0 : ab_ty 11 0 = .object "ProgramSchool$Row" := rfl
theorem fn_11_0 : (ab_T 11 0).2.2.2 = true := rfl
theorem ft_11_1 : ab_ty 11 1 = .object "ProgramSchool$Program" := rfl
theorem fn_11_1 : (ab_T 11 1).2.2.2 = false := rfl
theorem ft_11_2 : ab_ty 11 2 = .boolean := rfl
theorem fn_11_2 : (ab_T 11 2).2.2.2 = false := rfl
theorem ft_11_3 : ab_ty 11 3 = .boolean := rfl
theorem fn_11_3 : (ab_T 11 3).2.2.2 = false := rfl
theorem ft_11_4 : ab_ty 11 4 = .object "ProgramSchool$Reader" := rfl
theorem fn_11_4 : (ab_T 11 4).2.2.2 = true := rfl
theorem ft_11_5 : ab_ty 11 5 = .object "ProgramSchool$Run" := rfl
theorem fn_11_5 : (ab_T 11 5).2.2.2 = true := rfl
theorem ft_11_6 : ab_ty 11 6 = .object "ProgramSchool$Run" := rfl
theorem fn_11_6 : (ab_T 11 6).2.2.2 = true := rfl
theorem ft_11_7 : ab_ty 11 7 = .object "ProgramSchool$Machine" := rfl
theorem fn_11_7 : (ab_T 11 7).2.2.2 = true := rfl
theorem ft_11_8 : ab_ty 11 8 = .object "ProgramSchool$Walker" := rfl
theorem fn_11_8 : (ab_T 11 8).2.2.2 = true := rfl
theorem ft_11_9 : ab_ty 11 9 = .object "java/util/ArrayList" := rfl
theorem fn_11_9 : (ab_T 11 9).2.2.2 = true := rfl
theorem ft_11_10 : ab_ty 11 10 = .object "java/util/ArrayList" := rfl
theorem fn_11_10 : (ab_T 11 10).2.2.2 = true := rfl
theorem ft_11_11 : ab_ty 11 11 = .object "ProgramSchool$Row" := rfl
theorem fn_11_11 : (ab_T 11 11).2.2.2 = true := rfl
theorem ft_11_12 : ab_ty 11 12 = .object "ProgramSchool$Row" := rfl
theorem fn_11_12 : (ab_T 11 12).2.2.2 = true := rfl
theorem ft_11_13 : ab_ty 11 13 = .int := rfl
theorem fn_11_13 : (ab_T 11 13).2.2.2 = false := rfl
theorem ft_12_0 : ab_ty 12 0 = .int := rfl
theorem fn_12_0 : (ab_T 12 0).2.2.2 = false := rfl
theorem ft_12_1 : ab_ty 12 1 = .array .char := rfl
theorem fn_12_1 : (ab_T 12 1).2.2.2 = true := rfl
theorem ft_12_2 : ab_ty 12 2 = .array .char := rfl
theorem fn_12_2 : (ab_T 12 2).2.2.2 = true := rfl
theorem ft_12_3 : ab_ty 12 3 = .array .char := rfl
theorem fn_12_3 : (ab_T 12 3).2.2.2 = true := rfl
theorem ft_12_4 : ab_ty 12 4 = .int := rfl
theorem fn_12_4 : (ab_T 12 4).2.2.2 = false := rfl
theorem ft_12_5 : ab_ty 12 5 = .int := rfl
theorem fn_12_5 : (ab_T 12 5).2.2.2 = false := rfl
theorem ft_12_6 : ab_ty 12 6 = .int := rfl
theorem fn_12_6 : (ab_T 12 6).2.2.2 = false := rfl
theorem ft_12_7 : ab_ty 12 7 = .int := rfl
theorem fn_12_7 : (ab_T 12 7).2.2.2 = false := rfl
theorem ft_12_8 : ab_ty 12 8 = .int := rfl
theorem fn_12_8 : (ab_T 12 8).2.2.2 = false := rfl
theorem ft_12_9 : ab_ty 12 9 = .int := rfl
theorem fn_12_9 : (ab_T 12 9).2.2.2 = false := rfl
theorem ft_12_10 : ab_ty 12 10 = .int := rfl
theorem fn_12_10 : (ab_T 12 10).2.2.2 = false := rfl
theorem ft_12_11 : ab_ty 12 11 = .int := rfl
theorem fn_12_11 : (ab_T 12 11).2.2.2 = false := rfl
theorem ft_12_12 : ab_ty 12 12 = .array .int := rfl
theorem fn_12_12 : (ab_T 12 12).2.2.2 = true := rfl
theorem ft_12_13 : ab_ty 12 13 = .array .int := rfl
theorem fn_12_13 : (ab_T 12 13).2.2.2 = true := rfl
theorem ft_12_14 : ab_ty 12 14 = .int := rfl
theorem fn_12_14 : (ab_T 12 14).2.2.2 = false := rfl
theorem ft_12_15 : ab_ty 12 15 = .array .int := rfl
theorem fn_12_15 : (ab_T 12 15).2.2.2 = true := rfl
theorem ft_12_16 : ab_ty 12 16 = .int := rfl
theorem fn_12_16 : (ab_T 12 16).2.2.2 = false := rfl
theorem ft_12_17 : ab_ty 12 17 = .array .int := rfl
theorem fn_12_17 : (ab_T 12 17).2.2.2 = true := rfl
theorem ft_12_18 : ab_ty 12 18 = .array .int := rfl
theorem fn_12_18 : (ab_T 12 18).2.2.2 = true := rfl
theorem ft_12_19 : ab_ty 12 19 = .array .int := rfl
theorem fn_12_19 : (ab_T 12 19).2.2.2 = true := rfl
theorem ft_12_20 : ab_ty 12 20 = .array .int := rfl
theorem fn_12_20 : (ab_T 12 20).2.2.2 = true := rfl
theorem ft_12_21 : ab_ty 12 21 = .array .int := rfl
theorem fn_12_21 : (ab_T 12 21).2.2.2 = true := rfl
theorem ft_12_22 : ab_ty 12 22 = .int := rfl
theorem fn_12_22 : (ab_T 12 22).2.2.2 = false := rfl
theorem ft_12_23 : ab_ty 12 23 = .array .int := rfl
theorem fn_12_23 : (ab_T 12 23).2.2.2 = true := rfl
theorem ft_12_24 : ab_ty 12 24 = .array .int := rfl
theorem fn_12_24 : (ab_T 12 24).2.2.2 = true := rfl
theorem ft_12_25 : ab_ty 12 25 = .array .int := rfl
theorem fn_12_25 : (ab_T 12 25).2.2.2 = true := rfl
theorem ft_12_26 : ab_ty 12 26 = .array .int := rfl
theorem fn_12_26 : (ab_T 12 26).2.2.2 = true := rfl
theorem ft_12_27 : ab_ty 12 27 = .int := rfl
theorem fn_12_27 : (ab_T 12 27).2.2.2 = false := rfl
theorem ft_12_28 : ab_ty 12 28 = .array .int := rfl
theorem fn_12_28 : (ab_T 12 28).2.2.2 = true := rfl
theorem ft_12_29 : ab_ty 12 29 = .array .int := rfl
theorem fn_12_29 : (ab_T 12 29).2.2.2 = true := rfl
theorem ft_12_30 : ab_ty 12 30 = .array .int := rfl
theorem fn_12_30 : (ab_T 12 30).2.2.2 = true := rfl
theorem ft_12_31 : ab_ty 12 31 = .array .int := rfl
theorem fn_12_31 : (ab_T 12 31).2.2.2 = true := rfl
theorem ft_12_32 : ab_ty 12 32 = .int := rfl
theorem fn_12_32 : (ab_T 12 32).2.2.2 = false := rfl
theorem ft_12_33 : ab_ty 12 33 = .int := rfl
theorem fn_12_33 : (ab_T 12 33).2.2.2 = false := rfl
theorem ft_12_34 : ab_ty 12 34 = .int := rfl
theorem fn_12_34 : (ab_T 12 34).2.2.2 = false := rfl
theorem ft_12_35 : ab_ty 12 35 = .int := rfl
theorem fn_12_35 : (ab_T 12 35).2.2.2 = false := rfl
theorem ft_12_36 : ab_ty 12 36 = .array .int := rfl
theorem fn_12_36 : (ab_T 12 36).2.2.2 = true := rfl
theorem ft_12_37 : ab_ty 12 37 = .array .int := rfl
theorem fn_12_37 : (ab_T 12 37).2.2.2 = true := rfl
theorem ft_12_38 : ab_ty 12 38 = .int := rfl
theorem fn_12_38 : (ab_T 12 38).2.2.2 = false := rfl
theorem ft_12_39 : ab_ty 12 39 = .array .int := rfl
theorem fn_12_39 : (ab_T 12 39).2.2.2 = true := rfl
theorem ft_12_40 : ab_ty 12 40 = .array .int := rfl
theorem fn_12_40 : (ab_T 12 40).2.2.2 = true := rfl
theorem ft_12_41 : ab_ty 12 41 = .array .int := rfl
theorem fn_12_41 : (ab_T 12 41).2.2.2 = true := rfl
theorem ft_12_42 : ab_ty 12 42 = .array .int := rfl
theorem fn_12_42 : (ab_T 12 42).2.2.2 = true := rfl
theorem ft_12_43 : ab_ty 12 43 = .int := rfl
theorem fn_12_43 : (ab_T 12 43).2.2.2 = false := rfl
theorem ft_12_44 : ab_ty 12 44 = .int := rfl
theorem fn_12_44 : (ab_T 12 44).2.2.2 = false := rfl
theorem ft_12_45 : ab_ty 12 45 = .array .int := rfl
theorem fn_12_45 : (ab_T 12 45).2.2.2 = true := rfl
theorem ft_12_46 : ab_ty 12 46 = .array .int := rfl
theorem fn_12_46 : (ab_T 12 46).2.2.2 = true := rfl
theorem ft_12_47 : ab_ty 12 47 = .array .int := rfl
theorem fn_12_47 : (ab_T 12 47).2.2.2 = true := rfl
theorem ft_12_48 : ab_ty 12 48 = .array .boolean := rfl
theorem fn_12_48 : (ab_T 12 48).2.2.2 = true := rfl
theorem ft_12_49 : ab_ty 12 49 = .int := rfl
theorem fn_12_49 : (ab_T 12 49).2.2.2 = false := rfl
theorem ft_12_50 : ab_ty 12 50 = .int := rfl
theorem fn_12_50 : (ab_T 12 50).2.2.2 = false := rfl
theorem ft_12_51 : ab_ty 12 51 = .int := rfl
theorem fn_12_51 : (ab_T 12 51).2.2.2 = false := rfl
theorem ft_12_52 : ab_ty 12 52 = .int := rfl
theorem fn_12_52 : (ab_T 12 52).2.2.2 = false := rfl
theorem ft_12_53 : ab_ty 12 53 = .int := rfl
theorem fn_12_53 : (ab_T 12 53).2.2.2 = false := rfl
theorem ft_12_54 : ab_ty 12 54 = .array .int := rfl
theorem fn_12_54 : (ab_T 12 54).2.2.2 = true := rfl
theorem ft_12_55 : ab_ty 12 55 = .array .int := rfl
theorem fn_12_55 : (ab_T 12 55).2.2.2 = true := rfl
theorem ft_12_56 : ab_ty 12 56 = .array .int := rfl
theorem fn_12_56 : (ab_T 12 56).2.2.2 = true := rfl
theorem ft_12_57 : ab_ty 12 57 = .int := rfl
theorem fn_12_57 : (ab_T 12 57).2.2.2 = false := rfl
theorem ft_12_58 : ab_ty 12 58 = .array .int := rfl
theorem fn_12_58 : (ab_T 12 58).2.2.2 = true := rfl
theorem ft_12_59 : ab_ty 12 59 = .array .int := rfl
theorem fn_12_59 : (ab_T 12 59).2.2.2 = true := rfl
theorem ft_12_60 : ab_ty 12 60 = .int := rfl
theorem fn_12_60 : (ab_T 12 60).2.2.2 = false := rfl
theorem ft_12_61 : ab_ty 12 61 = .array .int := rfl
theorem fn_12_61 : (ab_T 12 61).2.2.2 = true := rfl
theorem ft_12_62 : ab_ty 12 62 = .array .int := rfl
theorem fn_12_62 : (ab_T 12 62).2.2.2 = true := rfl
theorem ft_12_63 : ab_ty 12 63 = .int := rfl
theorem fn_12_63 : (ab_T 12 63).2.2.2 = false := rfl
theorem ft_12_64 : ab_ty 12 64 = .int := rfl
theorem fn_12_64 : (ab_T 12 64).2.2.2 = false := rfl
theorem ft_12_65 : ab_ty 12 65 = .int := rfl
theorem fn_12_65 : (ab_T 12 65).2.2.2 = false := rfl
theorem ft_12_66 : ab_ty 12 66 = .array .int := rfl
theorem fn_12_66 : (ab_T 12 66).2.2.2 = true := rfl
theorem ft_12_67 : ab_ty 12 67 = .array .int := rfl
theorem fn_12_67 : (ab_T 12 67).2.2.2 = true := rfl
theorem ft_12_68 : ab_ty 12 68 = .array .int := rfl
theorem fn_12_68 : (ab_T 12 68).2.2.2 = true := rfl
theorem ft_12_69 : ab_ty 12 69 = .array .int := rfl
theorem fn_12_69 : (ab_T 12 69).2.2.2 = true := rfl
theorem ft_12_70 : ab_ty 12 70 = .array .int := rfl
theorem fn_12_70 : (ab_T 12 70).2.2.2 = true := rfl
theorem ft_12_71 : ab_ty 12 71 = .array .int := rfl
theorem fn_12_71 : (ab_T 12 71).2.2.2 = true := rfl
theorem ft_12_72 : ab_ty 12 72 = .array .int := rfl
theorem fn_12_72 : (ab_T 12 72).2.2.2 = true := rfl
theorem ft_12_73 : ab_ty 12 73 = .array .boolean := rfl
theorem fn_12_73 : (ab_T 12 73).2.2.2 = true := rfl
theorem ft_12_74 : ab_ty 12 74 = .int := rfl
theorem fn_12_74 : (ab_T 12 74).2.2.2 = false := rfl
theorem ft_12_75 : ab_ty 12 75 = .array .int := rfl
theorem fn_12_75 : (ab_T 12 75).2.2.2 = true := rfl
theorem ft_12_76 : ab_ty 12 76 = .array .int := rfl
theorem fn_12_76 : (ab_T 12 76).2.2.2 = true := rfl
theorem ft_12_77 : ab_ty 12 77 = .array .int := rfl
theorem fn_12_77 : (ab_T 12 77).2.2.2 = true := rfl
theorem ft_12_78 : ab_ty 12 78 = .array .int := rfl
theorem fn_12_78 : (ab_T 12 78).2.2.2 = true := rfl
theorem ft_12_79 : ab_ty 12 79 = .array .boolean := rfl
theorem fn_12_79 : (ab_T 12 79).2.2.2 = true := rfl
theorem ft_12_80 : ab_ty 12 80 = .array .int := rfl
theorem fn_12_80 : (ab_T 12 80).2.2.2 = true := rfl
theorem ft_12_81 : ab_ty 12 81 = .array .boolean := rfl
theorem fn_12_81 : (ab_T 12 81).2.2.2 = true := rfl
theorem ft_12_82 : ab_ty 12 82 = .int := rfl
theorem fn_12_82 : (ab_T 12 82).2.2.2 = false := rfl
def ab_mT : List (Nat × Nat × Nat × Nat) := [(1, 3, 0, 1422), (1, 11, 6000, 1424), (1, 41, 2004, 1386), (1, 47, 1002, 1391), (1, 58, 1, 1395), (1, 64, 2, 1396), (2, 1, 0, 1198), (2, 9, 4, 1200), (2, 26, 7, 1347), (2, 30, 5, 1309), (2, 34, 6, 1374), (2, 47, 6002, 1390), (3, 3, 0, 350), (3, 11, 6000, 352), (3, 28, 7001, 961), (3, 34, 6008, 966), (3, 42, 7002, 968), (3, 46, 4007, 972), (3, 52, 4008, 976), (3, 55, 3002, 980), (3, 59, 3003, 1036), (3, 62, 7009, 984), (3, 65, 6004, 993), (3, 68, 7013, 994), (3, 71, 6006, 999), (3, 75, 7014, 1003), (3, 78, 7012, 1008), (3, 81, 7010, 1012), (3, 84, 7011, 1017), (3, 87, 7017, 1022), (3, 91, 7018, 1032), (3, 95, 3004, 1040), (3, 99, 3005, 1044), (3, 102, 7016, 1058), (3, 105, 7008, 1063), (3, 108, 7015, 1048), (3, 112, 4013, 1053), (3, 115, 4015, 1054), (4, 3, 0, 190), (4, 20, 6000, 222), (4, 52, 6008, 614), (4, 55, 6004, 633), (4, 58, 6001, 634), (4, 62, 6003, 700), (4, 66, 6002, 762), (4, 70, 6010, 725), (4, 73, 4004, 1461), (4, 76, 6009, 1462), (4, 79, 4017, 1463), (4, 83, 4018, 1467), (5, 3, 0, 268), (5, 11, 6000, 270), (5, 43, 4001, 610), (5, 50, 9002, 615), (5, 66, 6008, 619), (5, 69, 5003, 620), (5, 72, 5008, 625), (5, 77, 4005, 635), (5, 81, 5002, 750), (5, 84, 5023, 754), (5, 96, 6002, 624), (5, 100, 5005, 657), (5, 104, 4002, 629), (5, 107, 5009, 639), (5, 110, 5010, 701), (5, 113, 5018, 661), (5, 116, 5006, 673), (5, 119, 5011, 705), (5, 122, 5012, 713), (5, 125, 5014, 717), (5, 128, 5013, 742), (5, 131, 4003, 746), (5, 134, 5021, 643), (5, 137, 5004, 677), (5, 141, 5022, 681), (5, 145, 6003, 649), (5, 148, 5007, 653), (5, 151, 5019, 665), (5, 154, 5017, 709), (5, 157, 4006, 692), (5, 160, 4009, 696), (5, 166, 4012, 721), (5, 169, 4010, 726), (5, 172, 5015, 730), (5, 175, 6001, 647), (5, 178, 4011, 738), (5, 182, 5016, 734), (5, 185, 6010, 685), (5, 188, 9003, 689), (5, 191, 5020, 669), (5, 194, 6004, 648), (5, 197, 4013, 758), (6, 3, 0, 176), (7, 3, 0, 310), (7, 11, 6000, 312), (7, 33, 6009, 313), (7, 36, 6008, 965), (7, 51, 6001, 777), (7, 55, 6002, 998), (7, 59, 7008, 988), (7, 62, 7002, 992), (7, 66, 7009, 1016), (7, 69, 6004, 1021), (7, 72, 6003, 1007), (7, 76, 7014, 1052), (7, 79, 6006, 1062), (7, 82, 7019, 1026), (8, 3, 0, 1316), (8, 30, 7003, 1357), (8, 36, 7005, 1358), (8, 39, 7006, 1359), (9, 3, 0, 196), (9, 11, 6000, 198), (9, 32, 6008, 493), (9, 35, 6001, 494), (9, 39, 6002, 495), (9, 43, 9014, 499), (9, 47, 9005, 502), (9, 51, 9015, 521), (9, 54, 9006, 524), (9, 57, 9011, 596), (9, 60, 9004, 513), (9, 64, 6004, 517), (9, 72, 3, 509), (9, 80, 9007, 528), (9, 84, 9009, 589), (9, 89, 9008, 532), (9, 105, 8, 535), (9, 110, 9, 545), (9, 114, 9010, 593), (9, 118, 9012, 600), (9, 122, 9013, 603), (10, 3, 0, 371), (10, 11, 6000, 373), (10, 38, 7001, 1079), (10, 44, 6008, 1080), (10, 55, 7002, 1082), (10, 59, 10002, 1083), (10, 62, 10005, 1104), (10, 65, 10007, 1126), (10, 73, 6002, 1087), (10, 77, 7008, 1088), (10, 80, 10004, 1089), (10, 84, 7009, 1099), (10, 87, 10003, 1100), (10, 90, 6004, 1093), (10, 93, 10014, 1094), (10, 96, 10006, 1108), (10, 99, 7013, 1112), (10, 102, 7010, 1113), (10, 106, 10013, 1114), (10, 109, 9003, 1130), (10, 112, 10008, 1131), (10, 115, 10010, 1138), (10, 118, 10009, 1156), (10, 122, 6001, 1135), (10, 125, 6006, 1118), (10, 128, 7017, 1136), (10, 132, 7018, 1137), (10, 136, 6005, 1142), (10, 139, 10011, 1146), (10, 143, 7014, 1121), (10, 146, 7012, 1150), (10, 149, 7011, 1151), (10, 152, 10012, 1152), (10, 155, 7015, 1119), (10, 159, 4013, 1120), (10, 162, 4014, 1122), (10, 165, 7016, 1098), (11, 3, 0, 168), (11, 11, 6000, 173), (11, 27, 5000, 265), (11, 36, 7000, 307), (11, 46, 3000, 347), (11, 55, 10000, 368), (11, 62, 4, 398), (11, 76, 11035, 806), (11, 87, 6001, 469), (11, 91, 6004, 877), (11, 98, 6008, 473), (11, 103, 6007, 886), (11, 111, 6002, 768), (11, 115, 11042, 485), (11, 134, 11043, 922), (11, 137, 4004, 942), (11, 140, 11036, 953), (11, 143, 3001, 957), (11, 147, 7003, 1064), (11, 150, 10001, 1075), (11, 151, 7005, 773), (11, 156, 7006, 1168), (11, 159, 7004, 782), (11, 164, 7007, 1180), (11, 172, 5, 794), (11, 180, 2000, 1195), (11, 183, 7, 1217), (11, 186, 11040, 1287), (11, 192, 2002, 1305), (11, 199, 8000, 1313), (11, 202, 2001, 1343), (11, 205, 6, 1292), (11, 217, 11044, 1349), (11, 221, 11041, 1367), (11, 230, 11045, 1378), (11, 233, 1001, 1382), (11, 240, 11037, 1413), (11, 245, 1000, 1419), (11, 257, 4016, 1457), (11, 261, 11039, 1478), (11, 271, 2004, 1497), (11, 283, 8001, 1353), (11, 287, 1002, 1512), (11, 293, 1, 1520), (11, 299, 11038, 1542), (11, 302, 11046, 1546), (11, 305, 11047, 1558), (11, 311, 11048, 1569), (11, 329, 2003, 1370), (11, 334, 9001, 489), (11, 338, 5001, 606), (11, 343, 2, 1550), (12, 1, 0, 1594), (12, 175, 12002, 1862), (12, 181, 12005, 1856), (12, 185, 12003, 1865), (12, 192, 12004, 1873), (12, 202, 12013, 1905), (12, 205, 12011, 1909), (12, 216, 12012, 1918), (12, 236, 12017, 1936), (12, 243, 12015, 1912), (12, 247, 12016, 1921), (12, 250, 12018, 1932), (12, 281, 12020, 1944), (12, 288, 12027, 1996), (12, 292, 12028, 1992), (12, 298, 12025, 2016), (12, 301, 12031, 2032), (12, 304, 12021, 1952), (12, 311, 12024, 1980), (12, 315, 12022, 1960), (12, 319, 12034, 2012), (12, 323, 12026, 2000), (12, 329, 12042, 1948), (12, 332, 12023, 1976), (12, 335, 12014, 1968), (12, 338, 12040, 1972), (12, 341, 12035, 1984), (12, 344, 12029, 1988), (12, 347, 12038, 1956), (12, 350, 12041, 1964), (12, 353, 12036, 2020), (12, 356, 12044, 2024), (12, 359, 12032, 2035), (12, 363, 12033, 2039), (12, 366, 12046, 2043), (12, 369, 12047, 2047), (12, 372, 12048, 2051), (12, 374, 12037, 2055), (12, 377, 12030, 2071), (12, 380, 12039, 2004), (12, 383, 12043, 2008), (12, 386, 12045, 2028), (12, 389, 12053, 2059), (12, 392, 12052, 2063), (12, 395, 12049, 2067), (12, 398, 12050, 2075), (12, 401, 12051, 2079), (12, 404, 12019, 1901), (12, 407, 12054, 1940), (12, 421, 12057, 2107), (12, 426, 12058, 2111), (12, 429, 12059, 2139), (12, 433, 12060, 2123), (12, 436, 12063, 2148), (12, 446, 12065, 2115), (12, 449, 12064, 2119), (12, 452, 12061, 2135), (12, 455, 12062, 2144), (12, 461, 12066, 2152), (12, 463, 12069, 2100), (12, 466, 12067, 2103), (12, 469, 12056, 2127), (12, 472, 12068, 2131), (12, 476, 12055, 1897), (12, 479, 12071, 1893), (12, 484, 12070, 2096), (12, 494, 12076, 2160), (12, 500, 12082, 2187), (12, 515, 12072, 2192), (12, 518, 12085, 2196), (12, 520, 12083, 2204), (12, 523, 12098, 2208), (12, 530, 12091, 2229), (12, 533, 12090, 2245), (12, 536, 12094, 2241), (12, 539, 12097, 2212), (12, 542, 12100, 2265), (12, 547, 12105, 2290), (12, 550, 12106, 2286), (12, 553, 12108, 2282), (12, 556, 12107, 2298), (12, 559, 12111, 2306), (13, 7, 11001, 802), (13, 15, 11003, 881), (13, 19, 11005, 894), (13, 25, 11008, 918), (13, 31, 11009, 949), (13, 35, 11010, 1071), (13, 38, 11012, 1163), (13, 41, 11014, 1175), (13, 44, 11015, 1187), (13, 48, 11016, 1283), (13, 52, 11017, 1363), (13, 55, 11018, 1400), (13, 58, 11020, 1409), (13, 61, 11022, 1474), (13, 65, 11023, 1486), (13, 68, 11024, 1493), (13, 71, 11025, 1501), (13, 74, 11026, 1508), (13, 77, 11027, 1516), (13, 80, 11028, 1524), (13, 83, 11029, 1531), (13, 86, 11030, 1538), (13, 89, 11031, 1554), (13, 92, 11032, 1565), (13, 95, 11033, 1577), (13, 98, 11034, 1585), (13, 101, 11000, 165), (13, 104, 12000, 1591), (13, 107, 13000, 798), (13, 112, 12006, 1851), (13, 113, 12001, 1847), (13, 116, 11002, 465), (13, 119, 12007, 1869), (13, 120, 13001, 878), (13, 123, 12008, 1877), (13, 124, 11004, 477), (13, 127, 12009, 1881), (13, 128, 13002, 890), (13, 130, 12010, 1885), (13, 131, 11006, 481), (13, 134, 12073, 1889), (13, 135, 11007, 764), (13, 138, 12074, 2083), (13, 139, 13003, 914), (13, 142, 12075, 2087), (13, 143, 13004, 946), (13, 146, 12076, 2091), (13, 147, 13005, 1068), (13, 149, 12077, 2156), (13, 150, 11011, 769), (13, 153, 12078, 2161), (13, 154, 13006, 1160), (13, 156, 12079, 2165), (13, 157, 11013, 778), (13, 160, 12080, 2169), (13, 161, 13007, 1172), (13, 163, 12081, 2173), (13, 164, 13008, 1184), (13, 167, 12084, 2177), (13, 168, 13009, 1280), (13, 171, 12086, 2183), (13, 172, 13010, 1360), (13, 174, 12087, 2200), (13, 175, 13011, 1397), (13, 177, 12088, 2216), (13, 178, 11019, 786), (13, 181, 12089, 2221), (13, 182, 13012, 1406), (13, 184, 12092, 2225), (13, 185, 11021, 790), (13, 188, 12093, 2233), (13, 189, 13013, 1471), (13, 191, 12095, 2237), (13, 192, 13014, 1483), (13, 194, 12096, 2249), (13, 195, 13015, 1490), (13, 197, 12099, 2253), (13, 198, 13016, 1498), (13, 200, 12100, 2257), (13, 201, 13017, 1505), (13, 203, 12101, 2261), (13, 204, 13018, 1513), (13, 206, 12102, 2266), (13, 207, 13019, 1521), (13, 209, 12103, 2270), (13, 210, 13020, 1528), (13, 212, 12104, 2274), (13, 213, 13021, 1535), (13, 215, 12109, 2278), (13, 216, 13022, 1551), (13, 218, 12110, 2294), (13, 219, 13023, 1562), (13, 221, 12112, 2302), (13, 222, 13024, 1574), (13, 224, 12113, 2310), (13, 225, 13025, 1582), (13, 227, 12114, 2314)]
def ab_nT : List (Nat × Nat × Nat × Nat) := [(11, 20, 4000, 187), (4, 11, 9000, 193)]
def ab_mR (o i : Nat) : Option Nat := (ab_mT.find? (fun q => q.2.1 == i && q.1 == o)).map (fun q => q.2.2.1)
def ab_nR (o i : Nat) : Option Nat := (ab_nT.find? (fun q => q.2.1 == i && q.1 == o)).map (fun q => q.2.2.1)
abbrev ab_Info : Type := MethodName × ByteArray × Nat × Nat × Option FieldType × Nat × Bool × (List Value → Nat) × (List Value → Nat) × List (Nat × Nat × Nat × String)
def i1000 : ab_Info := (yX0_init, cX0_init, 1, 5, none, 4, false, (fun _ => 6), (fun _ => 60), [])
def i1001 : ab_Info := (yX0_markNow, cX0_markNow, 1, 1, (some .int), 0, false, (fun _ => 0), (fun _ => 0), [])
def i1002 : ab_Info := (yX0_markFor, cX0_markFor, 1, 4, (some .int), 1, false, (fun _ => 0), (fun _ => 0), [])
def ab_M1 : List ab_Info := [i1000, i1001, i1002]
def i2000 : ab_Info := (yX1_init, cX1_init, 2, 4, none, 3, false, (fun _ => 1), (fun _ => 3), [])
def i2001 : ab_Info := (yX1_add, cX1_add, 2, 2, none, 1, false, (fun _ => 1), (fun _ => 40), [])
def i2002 : ab_Info := (yX1_testCount, cX1_testCount, 2, 1, (some .int), 0, false, (fun _ => 0), (fun _ => 0), [])
def i2003 : ab_Info := (yX1_test, cX1_test, 2, 2, (some (.object "ProgramSchool$Test")), 1, false, (fun _ => 0), (fun _ => 0), [])
def i2004 : ab_Info := (yX1_pointsFor, cX1_pointsFor, 2, 6, (some .int), 1, false, (fun _ => 0), (fun _ => 0), [])
def ab_M2 : List ab_Info := [i2000, i2001, i2002, i2003, i2004]
def i3000 : ab_Info := (yX2_init, cX2_init, 3, 3, none, 2, false, (fun _ => 2), (fun _ => 1700), [])
def i3001 : ab_Info := (yX2_run, cX2_run, 3, 9, none, 5, false, (fun _ => 0), (fun _ => 0), [])
def i3002 : ab_Info := (yX2_compute, cX2_compute, 3, 5, none, 2, false, (fun _ => 0), (fun _ => 0), [])
def i3003 : ab_Info := (yX2_go, cX2_go, 3, 3, none, 2, false, (fun _ => 0), (fun _ => 0), [])
def i3004 : ab_Info := (yX2_decide, cX2_decide, 3, 4, none, 2, false, (fun _ => 0), (fun _ => 0), [])
def i3005 : ab_Info := (yX2_call, cX2_call, 3, 3, none, 1, false, (fun _ => 0), (fun _ => 0), [])
def ab_M3 : List ab_Info := [i3000, i3001, i3002, i3003, i3004, i3005]
def i4000 : ab_Info := (yX3_init, cX3_init, 4, 1, none, 0, false, (fun _ => 30), (fun _ => 3500), [])
def i4001 : ab_Info := (yX3_begin, cX3_begin, 4, 1, none, 0, false, (fun _ => 0), (fun _ => 0), [])
def i4002 : ab_Info := (yX3_beginPart, cX3_beginPart, 4, 2, (some .int), 1, false, (fun _ => 0), (fun _ => 0), [])
def i4003 : ab_Info := (yX3_endPart, cX3_endPart, 4, 3, none, 2, false, (fun _ => 0), (fun _ => 0), [])
def i4004 : ab_Info := (yX3_partCount, cX3_partCount, 4, 1, (some .int), 0, false, (fun _ => 0), (fun _ => 0), [])
def i4005 : ab_Info := (yX3_addCode, cX3_addCode, 4, 3, (some .int), 2, false, (fun _ => 0), (fun _ => 0), [])
def i4006 : ab_Info := (yX3_codeCount, cX3_codeCount, 4, 1, (some .int), 0, false, (fun _ => 0), (fun _ => 0), [])
def i4007 : ab_Info := (yX3_code, cX3_code, 4, 2, (some .int), 1, false, (fun _ => 0), (fun _ => 0), [])
def i4008 : ab_Info := (yX3_operand, cX3_operand, 4, 2, (some .int), 1, false, (fun _ => 0), (fun _ => 0), [])
def i4009 : ab_Info := (yX3_setOperand, cX3_setOperand, 4, 3, none, 2, false, (fun _ => 0), (fun _ => 0), [])
def i4010 : ab_Info := (yX3_addDef, cX3_addDef, 4, 2, (some .int), 1, false, (fun _ => 0), (fun _ => 0), [])
def i4011 : ab_Info := (yX3_setDef, cX3_setDef, 4, 5, none, 4, false, (fun _ => 0), (fun _ => 0), [])
def i4012 : ab_Info := (yX3_defNamed, cX3_defNamed, 4, 2, (some .int), 1, false, (fun _ => 0), (fun _ => 0), [])
def i4013 : ab_Info := (yX3_parameters, cX3_parameters, 4, 2, (some .int), 1, false, (fun _ => 0), (fun _ => 0), [])
def i4014 : ab_Info := (yX3_block, cX3_block, 4, 2, (some .int), 1, false, (fun _ => 0), (fun _ => 0), [])
def i4015 : ab_Info := (yX3_entry, cX3_entry, 4, 2, (some .int), 1, false, (fun _ => 0), (fun _ => 0), [])
def i4016 : ab_Info := (yX3_partsInCommon, cX3_partsInCommon, 4, 6, (some .int), 1, false, (fun _ => 2), (fun _ => 160), [])
def i4017 : ab_Info := (yX3_freePartLike, cX3_freePartLike, 4, 5, (some .int), 3, false, (fun _ => 0), (fun _ => 0), [])
def i4018 : ab_Info := (yX3_areAlike, cX3_areAlike, 4, 8, (some .boolean), 3, false, (fun _ => 0), (fun _ => 0), [])
def ab_M4 : List ab_Info := [i4000, i4001, i4002, i4003, i4004, i4005, i4006, i4007, i4008, i4009, i4010, i4011, i4012, i4013, i4014, i4015, i4016, i4017, i4018]
def i5000 : ab_Info := (yX4_init, cX4_init, 5, 2, none, 1, false, (fun _ => 10), (fun _ => 500), [])
def i5001 : ab_Info := (yX4_read, cX4_read, 5, 3, none, 1, false, (fun _ => 0), (fun _ => 0), [])
def i5002 : ab_Info := (yX4_nameFault, cX4_nameFault, 5, 2, none, 0, false, (fun _ => 0), (fun _ => 0), [])
def i5003 : ab_Info := (yX4_kind, cX4_kind, 5, 1, (some .int), 0, false, (fun _ => 0), (fun _ => 0), [])
def i5004 : ab_Info := (yX4_names, cX4_names, 5, 1, (some (.object "ProgramSchool$Row")), 0, false, (fun _ => 0), (fun _ => 0), [])
def i5005 : ab_Info := (yX4_refuse, cX4_refuse, 5, 3, none, 2, false, (fun _ => 0), (fun _ => 0), [])
def i5006 : ab_Info := (yX4_expect, cX4_expect, 5, 2, none, 1, false, (fun _ => 0), (fun _ => 0), [])
def i5007 : ab_Info := (yX4_openLevel, cX4_openLevel, 5, 1, none, 0, false, (fun _ => 0), (fun _ => 0), [])
def i5008 : ab_Info := (yX4_statement, cX4_statement, 5, 3, none, 0, false, (fun _ => 0), (fun _ => 0), [])
def i5009 : ab_Info := (yX4_nameStatement, cX4_nameStatement, 5, 2, none, 0, false, (fun _ => 0), (fun _ => 0), [])
def i5010 : ab_Info := (yX4_cellStatement, cX4_cellStatement, 5, 1, none, 0, false, (fun _ => 0), (fun _ => 0), [])
def i5011 : ab_Info := (yX4_ifStatement, cX4_ifStatement, 5, 5, none, 0, false, (fun _ => 0), (fun _ => 0), [])
def i5012 : ab_Info := (yX4_whileStatement, cX4_whileStatement, 5, 4, none, 0, false, (fun _ => 0), (fun _ => 0), [])
def i5013 : ab_Info := (yX4_returnStatement, cX4_returnStatement, 5, 1, none, 0, false, (fun _ => 0), (fun _ => 0), [])
def i5014 : ab_Info := (yX4_defStatement, cX4_defStatement, 5, 4, none, 0, false, (fun _ => 0), (fun _ => 0), [])
def i5015 : ab_Info := (yX4_parameters, cX4_parameters, 5, 2, none, 0, false, (fun _ => 0), (fun _ => 0), [])
def i5016 : ab_Info := (yX4_parameter, cX4_parameter, 5, 1, none, 0, false, (fun _ => 0), (fun _ => 0), [])
def i5017 : ab_Info := (yX4_block, cX4_block, 5, 4, none, 1, false, (fun _ => 0), (fun _ => 0), [])
def i5018 : ab_Info := (yX4_expression, cX4_expression, 5, 6, none, 1, false, (fun _ => 0), (fun _ => 0), [])
def i5019 : ab_Info := (yX4_operand, cX4_operand, 5, 1, none, 0, false, (fun _ => 0), (fun _ => 0), [])
def i5020 : ab_Info := (yX4_markedOperand, cX4_markedOperand, 5, 2, none, 0, false, (fun _ => 0), (fun _ => 0), [])
def i5021 : ab_Info := (yX4_call, cX4_call, 5, 4, none, 0, false, (fun _ => 0), (fun _ => 0), [])
def i5022 : ab_Info := (yX4_variable, cX4_variable, 5, 3, (some .int), 1, false, (fun _ => 0), (fun _ => 0), [])
def i5023 : ab_Info := (yX4_linkCalls, cX4_linkCalls, 5, 4, none, 0, false, (fun _ => 0), (fun _ => 0), [])
def ab_M5 : List ab_Info := [i5000, i5001, i5002, i5003, i5004, i5005, i5006, i5007, i5008, i5009, i5010, i5011, i5012, i5013, i5014, i5015, i5016, i5017, i5018, i5019, i5020, i5021, i5022, i5023]
def i6000 : ab_Info := (yX5_init, cX5_init, 6, 2, none, 1, false, (fun _ => 1), (fun v => match v with | [_, .int x] => x.toNatClampNeg | _ => 0), [])
def i6001 : ab_Info := (yX5_size, cX5_size, 6, 1, (some .int), 0, false, (fun _ => 0), (fun _ => 0), [])
def i6002 : ab_Info := (yX5_get, cX5_get, 6, 2, (some .int), 1, false, (fun _ => 0), (fun _ => 0), [])
def i6003 : ab_Info := (yX5_set, cX5_set, 6, 3, none, 2, false, (fun _ => 0), (fun _ => 0), [])
def i6004 : ab_Info := (yX5_add, cX5_add, 6, 2, none, 1, false, (fun _ => 0), (fun _ => 0), [])
def i6005 : ab_Info := (yX5_last, cX5_last, 6, 1, (some .int), 0, false, (fun _ => 0), (fun _ => 0), [])
def i6006 : ab_Info := (yX5_takeLast, cX5_takeLast, 6, 1, (some .int), 0, false, (fun _ => 0), (fun _ => 0), [])
def i6007 : ab_Info := (yX5_cut, cX5_cut, 6, 2, none, 1, false, (fun _ => 0), (fun _ => 0), [])
def i6008 : ab_Info := (yX5_empty, cX5_empty, 6, 1, none, 0, false, (fun _ => 0), (fun _ => 0), [])
def i6009 : ab_Info := (yX5_fillWithZeros, cX5_fillWithZeros, 6, 2, none, 0, false, (fun _ => 0), (fun _ => 0), [])
def i6010 : ab_Info := (yX5_placeOf, cX5_placeOf, 6, 3, (some .int), 1, false, (fun _ => 0), (fun _ => 0), [])
def ab_M6 : List ab_Info := [i6000, i6001, i6002, i6003, i6004, i6005, i6006, i6007, i6008, i6009, i6010]
def i7000 : ab_Info := (yX6_init, cX6_init, 7, 1, none, 0, false, (fun _ => 8), (fun _ => 160), [])
def i7001 : ab_Info := (yX6_begin, cX6_begin, 7, 4, none, 3, false, (fun _ => 0), (fun _ => 0), [])
def i7002 : ab_Info := (yX6_isGoing, cX6_isGoing, 7, 1, (some .boolean), 0, false, (fun _ => 0), (fun _ => 0), [])
def i7003 : ab_Info := (yX6_end, cX6_end, 7, 1, (some .int), 0, false, (fun _ => 0), (fun _ => 0), [])
def i7004 : ab_Info := (yX6_fuel, cX6_fuel, 7, 1, (some .int), 0, false, (fun _ => 0), (fun _ => 0), [])
def i7005 : ab_Info := (yX6_outputCount, cX6_outputCount, 7, 1, (some .int), 0, false, (fun _ => 0), (fun _ => 0), [])
def i7006 : ab_Info := (yX6_output, cX6_output, 7, 2, (some .int), 1, false, (fun _ => 0), (fun _ => 0), [])
def i7007 : ab_Info := (yX6_cell, cX6_cell, 7, 2, (some .int), 1, false, (fun _ => 0), (fun _ => 0), [])
def i7008 : ab_Info := (yX6_stop, cX6_stop, 7, 2, none, 1, false, (fun _ => 0), (fun _ => 0), [])
def i7009 : ab_Info := (yX6_takeFuel, cX6_takeFuel, 7, 1, (some .boolean), 0, false, (fun _ => 0), (fun _ => 0), [])
def i7010 : ab_Info := (yX6_input, cX6_input, 7, 1, (some .int), 0, false, (fun _ => 0), (fun _ => 0), [])
def i7011 : ab_Info := (yX6_put, cX6_put, 7, 2, none, 1, false, (fun _ => 0), (fun _ => 0), [])
def i7012 : ab_Info := (yX6_setCell, cX6_setCell, 7, 3, none, 2, false, (fun _ => 0), (fun _ => 0), [])
def i7013 : ab_Info := (yX6_variable, cX6_variable, 7, 2, (some .int), 1, false, (fun _ => 0), (fun _ => 0), [])
def i7014 : ab_Info := (yX6_setVariable, cX6_setVariable, 7, 3, none, 2, false, (fun _ => 0), (fun _ => 0), [])
def i7015 : ab_Info := (yX6_enter, cX6_enter, 7, 3, (some .boolean), 1, false, (fun _ => 0), (fun _ => 0), [])
def i7016 : ab_Info := (yX6_leave, cX6_leave, 7, 1, (some .int), 0, false, (fun _ => 0), (fun _ => 0), [])
def i7017 : ab_Info := (yX6_one, cX6_one, 7, 3, (some .int), 2, false, (fun _ => 0), (fun _ => 0), [])
def i7018 : ab_Info := (yX6_two, cX6_two, 7, 4, (some .int), 3, false, (fun _ => 0), (fun _ => 0), [])
def i7019 : ab_Info := (yX6_intOf, cX6_intOf, 7, 3, (some .int), 1, false, (fun _ => 0), (fun _ => 0), [])
def ab_M7 : List ab_Info := [i7000, i7001, i7002, i7003, i7004, i7005, i7006, i7007, i7008, i7009, i7010, i7011, i7012, i7013, i7014, i7015, i7016, i7017, i7018, i7019]
def i8000 : ab_Info := (yX7_init, cX7_init, 8, 7, none, 6, false, (fun _ => 0), (fun _ => 0), [])
def i8001 : ab_Info := (yX7_isPassedBy, cX7_isPassedBy, 8, 2, (some .boolean), 1, false, (fun _ => 0), (fun _ => 0), [])
def ab_M8 : List ab_Info := [i8000, i8001]
def i9000 : ab_Info := (yX8_init, cX8_init, 9, 1, none, 0, false, (fun _ => 10), (fun _ => 1600), [])
def i9001 : ab_Info := (yX8_scan, cX8_scan, 9, 5, none, 1, false, (fun _ => 0), (fun _ => 0), [])
def i9002 : ab_Info := (yX8_last, cX8_last, 9, 1, (some .int), 0, false, (fun _ => 0), (fun _ => 0), [])
def i9003 : ab_Info := (yX8_levelOf, cX8_levelOf, 9, 1, (some .int), 1, true, (fun _ => 0), (fun _ => 0), [])
def i9004 : ab_Info := (yX8_add, cX8_add, 9, 4, none, 3, false, (fun _ => 0), (fun _ => 0), [])
def i9005 : ab_Info := (yX8_scanNumber, cX8_scanNumber, 9, 6, (some .int), 2, false, (fun _ => 0), (fun _ => 0), [])
def i9006 : ab_Info := (yX8_scanWord, cX8_scanWord, 9, 5, (some .int), 2, false, (fun _ => 0), (fun _ => 0), [])
def i9007 : ab_Info := (yX8_keyword, cX8_keyword, 9, 3, (some .int), 3, true, (fun _ => 0), (fun _ => 0), [])
def i9008 : ab_Info := (yX8_isWord, cX8_isWord, 9, 5, (some .boolean), 4, true, (fun _ => 0), (fun _ => 0), [])
def i9009 : ab_Info := (yX8_nameNumber, cX8_nameNumber, 9, 5, (some .int), 3, false, (fun _ => 0), (fun _ => 0), [])
def i9010 : ab_Info := (yX8_areSame, cX8_areSame, 9, 5, (some .boolean), 4, true, (fun _ => 0), (fun _ => 0), [])
def i9011 : ab_Info := (yX8_scanMark, cX8_scanMark, 9, 4, (some .int), 2, false, (fun _ => 0), (fun _ => 0), [])
def i9012 : ab_Info := (yX8_markOfTwo, cX8_markOfTwo, 9, 2, (some .int), 2, true, (fun _ => 0), (fun _ => 0), [])
def i9013 : ab_Info := (yX8_markOfOne, cX8_markOfOne, 9, 1, (some .int), 1, true, (fun _ => 0), (fun _ => 0), [])
def i9014 : ab_Info := (yX8_isDigit, cX8_isDigit, 9, 1, (some .boolean), 1, true, (fun _ => 0), (fun _ => 0), [])
def i9015 : ab_Info := (yX8_isLetter, cX8_isLetter, 9, 1, (some .boolean), 1, true, (fun _ => 0), (fun _ => 0), [])
def ab_M9 : List ab_Info := [i9000, i9001, i9002, i9003, i9004, i9005, i9006, i9007, i9008, i9009, i9010, i9011, i9012, i9013, i9014, i9015]
def i10000 : ab_Info := (yX9_init, cX9_init, 10, 3, none, 2, false, (fun _ => 4), (fun _ => 3400), [])
def i10001 : ab_Info := (yX9_run, cX9_run, 10, 7, none, 5, false, (fun _ => 0), (fun _ => 0), [])
def i10002 : ab_Info := (yX9_statement, cX9_statement, 10, 1, none, 0, false, (fun _ => 0), (fun _ => 0), [])
def i10003 : ab_Info := (yX9_beginStatement, cX9_beginStatement, 10, 1, none, 0, false, (fun _ => 0), (fun _ => 0), [])
def i10004 : ab_Info := (yX9_endBlock, cX9_endBlock, 10, 2, none, 0, false, (fun _ => 0), (fun _ => 0), [])
def i10005 : ab_Info := (yX9_operand, cX9_operand, 10, 1, none, 0, false, (fun _ => 0), (fun _ => 0), [])
def i10006 : ab_Info := (yX9_value, cX9_value, 10, 2, none, 1, false, (fun _ => 0), (fun _ => 0), [])
def i10007 : ab_Info := (yX9_operator, cX9_operator, 10, 3, none, 0, false, (fun _ => 0), (fun _ => 0), [])
def i10008 : ab_Info := (yX9_doWaitingMarks, cX9_doWaitingMarks, 10, 6, none, 1, false, (fun _ => 0), (fun _ => 0), [])
def i10009 : ab_Info := (yX9_decide, cX9_decide, 10, 3, none, 1, false, (fun _ => 0), (fun _ => 0), [])
def i10010 : ab_Info := (yX9_endExpression, cX9_endExpression, 10, 3, none, 1, false, (fun _ => 0), (fun _ => 0), [])
def i10011 : ab_Info := (yX9_endStatement, cX9_endStatement, 10, 3, none, 2, false, (fun _ => 0), (fun _ => 0), [])
def i10012 : ab_Info := (yX9_otherBlock, cX9_otherBlock, 10, 2, (some .int), 0, false, (fun _ => 0), (fun _ => 0), [])
def i10013 : ab_Info := (yX9_call, cX9_call, 10, 3, none, 0, false, (fun _ => 0), (fun _ => 0), [])
def i10014 : ab_Info := (yX9_endCall, cX9_endCall, 10, 1, none, 0, false, (fun _ => 0), (fun _ => 0), [])
def ab_M10 : List ab_Info := [i10000, i10001, i10002, i10003, i10004, i10005, i10006, i10007, i10008, i10009, i10010, i10011, i10012, i10013, i10014]
def i11000 : ab_Info := (yX10_init, cX10_init, 11, 1, none, 0, false, (fun _ => 100), (fun _ => 14000), [])
def i11001 : ab_Info := (yX10_write, cX10_write, 11, 6, (some .int), 1, false, (fun _ => 500), (fun _ => 10000), [])
def i11002 : ab_Info := (yX10_wipe, cX10_wipe, 11, 2, (some .int), 0, false, (fun _ => 0), (fun _ => 0), [])
def i11003 : ab_Info := (yX10_erase, cX10_erase, 11, 2, (some .int), 1, false, (fun _ => 500), (fun _ => 10000), [])
def i11004 : ab_Info := (yX10_length, cX10_length, 11, 1, (some .int), 0, false, (fun _ => 0), (fun _ => 0), [])
def i11005 : ab_Info := (yX10_signAt, cX10_signAt, 11, 2, (some .char), 1, false, (fun _ => 500), (fun _ => 10000), [])
def i11006 : ab_Info := (yX10_fault, cX10_fault, 11, 1, (some .int), 0, false, (fun _ => 500), (fun _ => 10000), [])
def i11007 : ab_Info := (yX10_faultPlace, cX10_faultPlace, 11, 1, (some .int), 0, false, (fun _ => 500), (fun _ => 10000), [])
def i11008 : ab_Info := (yX10_draftParts, cX10_draftParts, 11, 1, (some .int), 0, false, (fun _ => 500), (fun _ => 10000), [])
def i11009 : ab_Info := (yX10_trial, cX10_trial, 11, 4, (some .int), 3, false, (fun _ => 500), (fun _ => 10000), [])
def i11010 : ab_Info := (yX10_trialByTree, cX10_trialByTree, 11, 4, (some .int), 3, false, (fun _ => 500), (fun _ => 10000), [])
def i11011 : ab_Info := (yX10_outputs, cX10_outputs, 11, 1, (some .int), 0, false, (fun _ => 0), (fun _ => 0), [])
def i11012 : ab_Info := (yX10_outputAt, cX10_outputAt, 11, 2, (some .int), 1, false, (fun _ => 500), (fun _ => 10000), [])
def i11013 : ab_Info := (yX10_fuelLeft, cX10_fuelLeft, 11, 1, (some .int), 0, false, (fun _ => 0), (fun _ => 0), [])
def i11014 : ab_Info := (yX10_cellAt, cX10_cellAt, 11, 2, (some .int), 1, false, (fun _ => 500), (fun _ => 10000), [])
def i11015 : ab_Info := (yX10_addExercise, cX10_addExercise, 11, 3, (some .int), 2, false, (fun _ => 500), (fun _ => 10000), [])
def i11016 : ab_Info := (yX10_addTest, cX10_addTest, 11, 12, (some .int), 7, false, (fun _ => 500), (fun _ => 10000), [])
def i11017 : ab_Info := (yX10_withdraw, cX10_withdraw, 11, 7, (some .int), 2, false, (fun _ => 500), (fun _ => 10000), [])
def i11018 : ab_Info := (yX10_pass, cX10_pass, 11, 2, (some .int), 1, false, (fun _ => 500), (fun _ => 10000), [])
def i11019 : ab_Info := (yX10_today, cX10_today, 11, 1, (some .int), 0, false, (fun _ => 0), (fun _ => 0), [])
def i11020 : ab_Info := (yX10_hand, cX10_hand, 11, 6, (some .int), 2, false, (fun _ => 500), (fun _ => 10000), [])
def i11021 : ab_Info := (yX10_answers, cX10_answers, 11, 1, (some .int), 0, false, (fun _ => 0), (fun _ => 0), [])
def i11022 : ab_Info := (yX10_passes, cX10_passes, 11, 4, (some .boolean), 2, false, (fun _ => 500), (fun _ => 10000), [])
def i11023 : ab_Info := (yX10_endOf, cX10_endOf, 11, 4, (some .int), 2, false, (fun _ => 500), (fun _ => 10000), [])
def i11024 : ab_Info := (yX10_points, cX10_points, 11, 3, (some .int), 1, false, (fun _ => 500), (fun _ => 10000), [])
def i11025 : ab_Info := (yX10_mark, cX10_mark, 11, 2, (some .int), 1, false, (fun _ => 500), (fun _ => 10000), [])
def i11026 : ab_Info := (yX10_markAnew, cX10_markAnew, 11, 6, (some .int), 1, false, (fun _ => 500), (fun _ => 10000), [])
def i11027 : ab_Info := (yX10_best, cX10_best, 11, 7, (some .int), 2, false, (fun _ => 500), (fun _ => 10000), [])
def i11028 : ab_Info := (yX10_passed, cX10_passed, 11, 7, (some .int), 2, false, (fun _ => 500), (fun _ => 10000), [])
def i11029 : ab_Info := (yX10_parts, cX10_parts, 11, 2, (some .int), 1, false, (fun _ => 500), (fun _ => 10000), [])
def i11030 : ab_Info := (yX10_common, cX10_common, 11, 3, (some .int), 2, false, (fun _ => 500), (fun _ => 10000), [])
def i11031 : ab_Info := (yX10_likeness, cX10_likeness, 11, 3, (some .int), 2, false, (fun _ => 500), (fun _ => 10000), [])
def i11032 : ab_Info := (yX10_accuse, cX10_accuse, 11, 5, (some .int), 2, false, (fun _ => 500), (fun _ => 10000), [])
def i11033 : ab_Info := (yX10_clear, cX10_clear, 11, 3, (some .int), 1, false, (fun _ => 500), (fun _ => 10000), [])
def i11034 : ab_Info := (yX10_doubt, cX10_doubt, 11, 3, (some .int), 1, false, (fun _ => 500), (fun _ => 10000), [])
def i11035 : ab_Info := (yX10_byteOf, cX10_byteOf, 11, 3, (some .int), 2, true, (fun _ => 0), (fun _ => 0), [])
def i11036 : ab_Info := (yX10_requireTrialFuel, cX10_requireTrialFuel, 11, 1, none, 1, true, (fun _ => 1), (fun _ => 6), [])
def i11037 : ab_Info := (yX10_requirePupil, cX10_requirePupil, 11, 1, none, 1, true, (fun _ => 1), (fun _ => 6), [])
def i11038 : ab_Info := (yX10_requireAnswer, cX10_requireAnswer, 11, 2, none, 1, false, (fun _ => 1), (fun _ => 6), [])
def i11039 : ab_Info := (yX10_answerAt, cX10_answerAt, 11, 2, (some (.object "ProgramSchool$Answer")), 1, false, (fun _ => 1), (fun _ => 6), [])
def i11040 : ab_Info := (yX10_exerciseAt, cX10_exerciseAt, 11, 2, (some (.object "ProgramSchool$Exercise")), 1, false, (fun _ => 1), (fun _ => 6), [])
def i11041 : ab_Info := (yX10_testAt, cX10_testAt, 11, 3, (some (.object "ProgramSchool$Test")), 2, true, (fun _ => 1), (fun _ => 6), [])
def i11042 : ab_Info := (yX10_readDraft, cX10_readDraft, 11, 1, none, 0, false, (fun _ => 40), (fun _ => 3700), [])
def i11043 : ab_Info := (yX10_requireNoFault, cX10_requireNoFault, 11, 1, none, 0, false, (fun _ => 1), (fun _ => 6), [])
def i11044 : ab_Info := (yX10_test, cX10_test, 11, 3, none, 2, false, (fun _ => 0), (fun _ => 0), [])
def i11045 : ab_Info := (yX10_noteMarks, cX10_noteMarks, 11, 2, none, 0, false, (fun _ => 0), (fun _ => 0), [])
def i11046 : ab_Info := (yX10_commonOf, cX10_commonOf, 11, 3, (some .int), 2, false, (fun _ => 1), (fun _ => 6), [])
def i11047 : ab_Info := (yX10_likenessOf, cX10_likenessOf, 11, 4, (some .int), 2, false, (fun _ => 4), (fun _ => 24), [])
def i11048 : ab_Info := (yX10_canAccuse, cX10_canAccuse, 11, 5, (some .boolean), 2, false, (fun _ => 12), (fun _ => 72), [])
def ab_M11 : List ab_Info := [i11000, i11001, i11002, i11003, i11004, i11005, i11006, i11007, i11008, i11009, i11010, i11011, i11012, i11013, i11014, i11015, i11016, i11017, i11018, i11019, i11020, i11021, i11022, i11023, i11024, i11025, i11026, i11027, i11028, i11029, i11030, i11031, i11032, i11033, i11034, i11035, i11036, i11037, i11038, i11039, i11040, i11041, i11042, i11043, i11044, i11045, i11046, i11047, i11048]
def i12000 : ab_Info := (yX11_init, cX11_init, 12, 1, none, 0, false, (fun _ => 60), (fun _ => 18000), [])
def i12001 : ab_Info := (yX11_thrown, cX11_thrown, 12, 1, (some .int), 0, false, (fun _ => 0), (fun _ => 0), [])
def i12002 : ab_Info := (yX11_in, cX11_in, 12, 6, (some .boolean), 3, true, (fun _ => 0), (fun _ => 0), [])
def i12003 : ab_Info := (yX11_goes, cX11_goes, 12, 4, (some .boolean), 3, false, (fun _ => 0), (fun _ => 0), [])
def i12004 : ab_Info := (yX11_told, cX11_told, 12, 2, (some .int), 1, false, (fun _ => 0), (fun _ => 0), [])
def i12005 : ab_Info := (yX11_isSign, cX11_isSign, 12, 2, (some .boolean), 1, true, (fun _ => 0), (fun _ => 0), [])
def i12006 : ab_Info := (yX11_write, cX11_write, 12, 8, (some .int), 1, false, (fun _ => 0), (fun _ => 0), [])
def i12007 : ab_Info := (yX11_wipe, cX11_wipe, 12, 2, (some .int), 0, false, (fun _ => 0), (fun _ => 0), [])
def i12008 : ab_Info := (yX11_erase, cX11_erase, 12, 2, (some .int), 1, false, (fun _ => 0), (fun _ => 0), [])
def i12009 : ab_Info := (yX11_length, cX11_length, 12, 1, (some .int), 0, false, (fun _ => 0), (fun _ => 0), [])
def i12010 : ab_Info := (yX11_signAt, cX11_signAt, 12, 2, (some .char), 1, false, (fun _ => 0), (fun _ => 0), [])
def i12011 : ab_Info := (yX11_isDigit, cX11_isDigit, 12, 1, (some .boolean), 1, true, (fun _ => 0), (fun _ => 0), [])
def i12012 : ab_Info := (yX11_isLetter, cX11_isLetter, 12, 1, (some .boolean), 1, true, (fun _ => 0), (fun _ => 0), [])
def i12013 : ab_Info := (yX11_skips, cX11_skips, 12, 3, (some .int), 1, false, (fun _ => 0), (fun _ => 0), [])
def i12014 : ab_Info := (yX11_isOpenBehind, cX11_isOpenBehind, 12, 2, (some .boolean), 0, false, (fun _ => 0), (fun _ => 0), [])
def i12015 : ab_Info := (yX11_number, cX11_number, 12, 3, (some .int), 0, false, (fun _ => 0), (fun _ => 0), [])
def i12016 : ab_Info := (yX11_word, cX11_word, 12, 4, (some .int), 0, false, (fun _ => 0), (fun _ => 0), [])
def i12017 : ab_Info := (yX11_either, cX11_either, 12, 5, (some .int), 3, false, (fun _ => 0), (fun _ => 0), [])
def i12018 : ab_Info := (yX11_mark, cX11_mark, 12, 2, (some .int), 1, false, (fun _ => 0), (fun _ => 0), [])
def i12019 : ab_Info := (yX11_reads, cX11_reads, 12, 1, none, 0, false, (fun _ => 0), (fun _ => 0), [])
def i12020 : ab_Info := (yX11_fails, cX11_fails, 12, 2, (some .boolean), 1, false, (fun _ => 0), (fun _ => 0), [])
def i12021 : ab_Info := (yX11_adds, cX11_adds, 12, 3, (some .int), 2, false, (fun _ => 0), (fun _ => 0), [])
def i12022 : ab_Info := (yX11_takes, cX11_takes, 12, 3, (some .boolean), 2, false, (fun _ => 0), (fun _ => 0), [])
def i12023 : ab_Info := (yX11_beginsPart, cX11_beginsPart, 12, 1, none, 0, false, (fun _ => 0), (fun _ => 0), [])
def i12024 : ab_Info := (yX11_opens, cX11_opens, 12, 3, none, 2, false, (fun _ => 0), (fun _ => 0), [])
def i12025 : ab_Info := (yX11_top, cX11_top, 12, 1, (some .int), 0, false, (fun _ => 0), (fun _ => 0), [])
def i12026 : ab_Info := (yX11_rises, cX11_rises, 12, 1, (some .boolean), 0, false, (fun _ => 0), (fun _ => 0), [])
def i12027 : ab_Info := (yX11_isName, cX11_isName, 12, 7, (some .boolean), 4, false, (fun _ => 0), (fun _ => 0), [])
def i12028 : ab_Info := (yX11_known, cX11_known, 12, 4, (some .int), 0, false, (fun _ => 0), (fun _ => 0), [])
def i12029 : ab_Info := (yX11_variable, cX11_variable, 12, 2, (some .int), 0, false, (fun _ => 0), (fun _ => 0), [])
def i12030 : ab_Info := (yX11_defOf, cX11_defOf, 12, 5, (some .int), 2, false, (fun _ => 0), (fun _ => 0), [])
def i12031 : ab_Info := (yX11_level, cX11_level, 12, 1, (some .int), 1, true, (fun _ => 0), (fun _ => 0), [])
def i12032 : ab_Info := (yX11_ends, cX11_ends, 12, 3, none, 1, false, (fun _ => 0), (fun _ => 0), [])
def i12033 : ab_Info := (yX11_around, cX11_around, 12, 2, (some .int), 0, false, (fun _ => 0), (fun _ => 0), [])
def i12034 : ab_Info := (yX11_ended, cX11_ended, 12, 2, (some .boolean), 0, false, (fun _ => 0), (fun _ => 0), [])
def i12035 : ab_Info := (yX11_opensCall, cX11_opensCall, 12, 1, (some .boolean), 0, false, (fun _ => 0), (fun _ => 0), [])
def i12036 : ab_Info := (yX11_closesCall, cX11_closesCall, 12, 2, (some .boolean), 0, false, (fun _ => 0), (fun _ => 0), [])
def i12037 : ab_Info := (yX11_opensBlock, cX11_opensBlock, 12, 5, (some .boolean), 4, false, (fun _ => 0), (fun _ => 0), [])
def i12038 : ab_Info := (yX11_closesBlock, cX11_closesBlock, 12, 4, (some .boolean), 0, false, (fun _ => 0), (fun _ => 0), [])
def i12039 : ab_Info := (yX11_afterIf, cX11_afterIf, 12, 2, (some .boolean), 0, false, (fun _ => 0), (fun _ => 0), [])
def i12040 : ab_Info := (yX11_begins, cX11_begins, 12, 3, (some .boolean), 2, false, (fun _ => 0), (fun _ => 0), [])
def i12041 : ab_Info := (yX11_names, cX11_names, 12, 3, (some .boolean), 0, false, (fun _ => 0), (fun _ => 0), [])
def i12042 : ab_Info := (yX11_statement, cX11_statement, 12, 1, (some .boolean), 0, false, (fun _ => 0), (fun _ => 0), [])
def i12043 : ab_Info := (yX11_operand, cX11_operand, 12, 1, (some .boolean), 0, false, (fun _ => 0), (fun _ => 0), [])
def i12044 : ab_Info := (yX11_loads, cX11_loads, 12, 3, (some .boolean), 0, false, (fun _ => 0), (fun _ => 0), [])
def i12045 : ab_Info := (yX11_operator, cX11_operator, 12, 3, (some .boolean), 0, false, (fun _ => 0), (fun _ => 0), [])
def i12046 : ab_Info := (yX11_closes, cX11_closes, 12, 2, (some .boolean), 1, false, (fun _ => 0), (fun _ => 0), [])
def i12047 : ab_Info := (yX11_stops, cX11_stops, 12, 3, (some .boolean), 0, false, (fun _ => 0), (fun _ => 0), [])
def i12048 : ab_Info := (yX11_begins_, cX11_begins_, 12, 2, (some .boolean), 0, false, (fun _ => 0), (fun _ => 0), [])
def i12049 : ab_Info := (yX11_defWord, cX11_defWord, 12, 1, (some .boolean), 0, false, (fun _ => 0), (fun _ => 0), [])
def i12050 : ab_Info := (yX11_parameter, cX11_parameter, 12, 1, (some .boolean), 0, false, (fun _ => 0), (fun _ => 0), [])
def i12051 : ab_Info := (yX11_parameterNext, cX11_parameterNext, 12, 1, (some .boolean), 0, false, (fun _ => 0), (fun _ => 0), [])
def i12052 : ab_Info := (yX11_block, cX11_block, 12, 2, (some .boolean), 0, false, (fun _ => 0), (fun _ => 0), [])
def i12053 : ab_Info := (yX11_sets, cX11_sets, 12, 3, (some .boolean), 2, false, (fun _ => 0), (fun _ => 0), [])
def i12054 : ab_Info := (yX11_accepts, cX11_accepts, 12, 1, (some .boolean), 0, false, (fun _ => 0), (fun _ => 0), [])
def i12055 : ab_Info := (yX11_readsAll, cX11_readsAll, 12, 5, none, 0, false, (fun _ => 0), (fun _ => 0), [])
def i12056 : ab_Info := (yX11_burns, cX11_burns, 12, 1, (some .boolean), 0, false, (fun _ => 0), (fun _ => 0), [])
def i12057 : ab_Info := (yX11_push, cX11_push, 12, 2, none, 1, false, (fun _ => 0), (fun _ => 0), [])
def i12058 : ab_Info := (yX11_pop, cX11_pop, 12, 1, (some .int), 0, false, (fun _ => 0), (fun _ => 0), [])
def i12059 : ab_Info := (yX11_pushes, cX11_pushes, 12, 3, none, 1, false, (fun _ => 0), (fun _ => 0), [])
def i12060 : ab_Info := (yX11_isCell, cX11_isCell, 12, 1, (some .boolean), 1, true, (fun _ => 0), (fun _ => 0), [])
def i12061 : ab_Info := (yX11_one, cX11_one, 12, 3, none, 1, false, (fun _ => 0), (fun _ => 0), [])
def i12062 : ab_Info := (yX11_two, cX11_two, 12, 6, none, 1, false, (fun _ => 0), (fun _ => 0), [])
def i12063 : ab_Info := (yX11_divides, cX11_divides, 12, 6, none, 3, false, (fun _ => 0), (fun _ => 0), [])
def i12064 : ab_Info := (yX11_stores, cX11_stores, 12, 3, none, 0, false, (fun _ => 0), (fun _ => 0), [])
def i12065 : ab_Info := (yX11_writes, cX11_writes, 12, 2, none, 0, false, (fun _ => 0), (fun _ => 0), [])
def i12066 : ab_Info := (yX11_calls, cX11_calls, 12, 4, (some .int), 2, false, (fun _ => 0), (fun _ => 0), [])
def i12067 : ab_Info := (yX11_does, cX11_does, 12, 3, (some .int), 1, false, (fun _ => 0), (fun _ => 0), [])
def i12068 : ab_Info := (yX11_doesBurnt, cX11_doesBurnt, 12, 7, (some .int), 3, false, (fun _ => 0), (fun _ => 0), [])
def i12069 : ab_Info := (yX11_needsFuel, cX11_needsFuel, 12, 1, (some .boolean), 1, true, (fun _ => 0), (fun _ => 0), [])
def i12070 : ab_Info := (yX11_runs, cX11_runs, 12, 5, none, 3, false, (fun _ => 0), (fun _ => 0), [])
def i12071 : ab_Info := (yX11_loadsDraft, cX11_loadsDraft, 12, 2, none, 0, false, (fun _ => 0), (fun _ => 0), [])
def i12072 : ab_Info := (yX11_loadsAnswer, cX11_loadsAnswer, 12, 3, none, 1, false, (fun _ => 0), (fun _ => 0), [])
def i12073 : ab_Info := (yX11_fault, cX11_fault, 12, 1, (some .int), 0, false, (fun _ => 0), (fun _ => 0), [])
def i12074 : ab_Info := (yX11_faultPlace, cX11_faultPlace, 12, 1, (some .int), 0, false, (fun _ => 0), (fun _ => 0), [])
def i12075 : ab_Info := (yX11_draftParts, cX11_draftParts, 12, 1, (some .int), 0, false, (fun _ => 0), (fun _ => 0), [])
def i12076 : ab_Info := (yX11_trial, cX11_trial, 12, 5, (some .int), 3, false, (fun _ => 0), (fun _ => 0), [])
def i12077 : ab_Info := (yX11_trialByTree, cX11_trialByTree, 12, 4, (some .int), 3, false, (fun _ => 0), (fun _ => 0), [])
def i12078 : ab_Info := (yX11_outputs, cX11_outputs, 12, 1, (some .int), 0, false, (fun _ => 0), (fun _ => 0), [])
def i12079 : ab_Info := (yX11_outputAt, cX11_outputAt, 12, 2, (some .int), 1, false, (fun _ => 0), (fun _ => 0), [])
def i12080 : ab_Info := (yX11_fuelLeft, cX11_fuelLeft, 12, 1, (some .int), 0, false, (fun _ => 0), (fun _ => 0), [])
def i12081 : ab_Info := (yX11_cellAt, cX11_cellAt, 12, 2, (some .int), 1, false, (fun _ => 0), (fun _ => 0), [])
def i12082 : ab_Info := (yX11_isExercise, cX11_isExercise, 12, 2, (some .boolean), 1, false, (fun _ => 0), (fun _ => 0), [])
def i12083 : ab_Info := (yX11_isTest, cX11_isTest, 12, 3, (some .boolean), 2, false, (fun _ => 0), (fun _ => 0), [])
def i12084 : ab_Info := (yX11_addExercise, cX11_addExercise, 12, 3, (some .int), 2, false, (fun _ => 0), (fun _ => 0), [])
def i12085 : ab_Info := (yX11_tests, cX11_tests, 12, 6, none, 2, false, (fun _ => 0), (fun _ => 0), [])
def i12086 : ab_Info := (yX11_addTest, cX11_addTest, 12, 12, (some .int), 7, false, (fun _ => 0), (fun _ => 0), [])
def i12087 : ab_Info := (yX11_withdraw, cX11_withdraw, 12, 7, (some .int), 2, false, (fun _ => 0), (fun _ => 0), [])
def i12088 : ab_Info := (yX11_pass, cX11_pass, 12, 3, (some .int), 1, false, (fun _ => 0), (fun _ => 0), [])
def i12089 : ab_Info := (yX11_today, cX11_today, 12, 1, (some .int), 0, false, (fun _ => 0), (fun _ => 0), [])
def i12090 : ab_Info := (yX11_isAnswer, cX11_isAnswer, 12, 2, (some .boolean), 1, false, (fun _ => 0), (fun _ => 0), [])
def i12091 : ab_Info := (yX11_isPupil, cX11_isPupil, 12, 1, (some .boolean), 1, true, (fun _ => 0), (fun _ => 0), [])
def i12092 : ab_Info := (yX11_hand, cX11_hand, 12, 4, (some .int), 2, false, (fun _ => 0), (fun _ => 0), [])
def i12093 : ab_Info := (yX11_answers, cX11_answers, 12, 1, (some .int), 0, false, (fun _ => 0), (fun _ => 0), [])
def i12094 : ab_Info := (yX11_isTestOf, cX11_isTestOf, 12, 3, (some .boolean), 2, false, (fun _ => 0), (fun _ => 0), [])
def i12095 : ab_Info := (yX11_passes, cX11_passes, 12, 3, (some .boolean), 2, false, (fun _ => 0), (fun _ => 0), [])
def i12096 : ab_Info := (yX11_endOf, cX11_endOf, 12, 3, (some .int), 2, false, (fun _ => 0), (fun _ => 0), [])
def i12097 : ab_Info := (yX11_pointsOf, cX11_pointsOf, 12, 6, (some .int), 1, false, (fun _ => 0), (fun _ => 0), [])
def i12098 : ab_Info := (yX11_markOf, cX11_markOf, 12, 4, (some .int), 1, false, (fun _ => 0), (fun _ => 0), [])
def i12099 : ab_Info := (yX11_points, cX11_points, 12, 2, (some .int), 1, false, (fun _ => 0), (fun _ => 0), [])
def i12100 : ab_Info := (yX11_mark_, cX11_mark_, 12, 2, (some .int), 1, false, (fun _ => 0), (fun _ => 0), [])
def i12101 : ab_Info := (yX11_markAnew, cX11_markAnew, 12, 2, (some .int), 1, false, (fun _ => 0), (fun _ => 0), [])
def i12102 : ab_Info := (yX11_best, cX11_best, 12, 6, (some .int), 2, false, (fun _ => 0), (fun _ => 0), [])
def i12103 : ab_Info := (yX11_passed, cX11_passed, 12, 5, (some .int), 2, false, (fun _ => 0), (fun _ => 0), [])
def i12104 : ab_Info := (yX11_parts, cX11_parts, 12, 2, (some .int), 1, false, (fun _ => 0), (fun _ => 0), [])
def i12105 : ab_Info := (yX11_isAlike, cX11_isAlike, 12, 6, (some .boolean), 2, false, (fun _ => 0), (fun _ => 0), [])
def i12106 : ab_Info := (yX11_shared, cX11_shared, 12, 7, (some .int), 2, false, (fun _ => 0), (fun _ => 0), [])
def i12107 : ab_Info := (yX11_likenessOf, cX11_likenessOf, 12, 4, (some .int), 2, false, (fun _ => 0), (fun _ => 0), [])
def i12108 : ab_Info := (yX11_areAnswers, cX11_areAnswers, 12, 3, (some .boolean), 2, false, (fun _ => 0), (fun _ => 0), [])
def i12109 : ab_Info := (yX11_common, cX11_common, 12, 3, (some .int), 2, false, (fun _ => 0), (fun _ => 0), [])
def i12110 : ab_Info := (yX11_likeness, cX11_likeness, 12, 3, (some .int), 2, false, (fun _ => 0), (fun _ => 0), [])
def i12111 : ab_Info := (yX11_isDoubtful, cX11_isDoubtful, 12, 4, (some .boolean), 2, false, (fun _ => 0), (fun _ => 0), [])
def i12112 : ab_Info := (yX11_accuse, cX11_accuse, 12, 5, (some .int), 2, false, (fun _ => 0), (fun _ => 0), [])
def i12113 : ab_Info := (yX11_clear, cX11_clear, 12, 3, (some .int), 1, false, (fun _ => 0), (fun _ => 0), [])
def i12114 : ab_Info := (yX11_doubt, cX11_doubt, 12, 4, (some .int), 1, false, (fun _ => 0), (fun _ => 0), [])
def ab_M12 : List ab_Info := [i12000, i12001, i12002, i12003, i12004, i12005, i12006, i12007, i12008, i12009, i12010, i12011, i12012, i12013, i12014, i12015, i12016, i12017, i12018, i12019, i12020, i12021, i12022, i12023, i12024, i12025, i12026, i12027, i12028, i12029, i12030, i12031, i12032, i12033, i12034, i12035, i12036, i12037, i12038, i12039, i12040, i12041, i12042, i12043, i12044, i12045, i12046, i12047, i12048, i12049, i12050, i12051, i12052, i12053, i12054, i12055, i12056, i12057, i12058, i12059, i12060, i12061, i12062, i12063, i12064, i12065, i12066, i12067, i12068, i12069, i12070, i12071, i12072, i12073, i12074, i12075, i12076, i12077, i12078, i12079, i12080, i12081, i12082, i12083, i12084, i12085, i12086, i12087, i12088, i12089, i12090, i12091, i12092, i12093, i12094, i12095, i12096, i12097, i12098, i12099, i12100, i12101, i12102, i12103, i12104, i12105, i12106, i12107, i12108, i12109, i12110, i12111, i12112, i12113, i12114]
def i13000 : ab_Info := (yL_write, cL_write, 13, 5, (some .int), 3, true, (fun _ => 500), (fun _ => 10000), [(0, 9, 12, "java/lang/IllegalArgumentException")])
def i13001 : ab_Info := (yL_erase, cL_erase, 13, 4, (some .int), 3, true, (fun _ => 500), (fun _ => 10000), [(0, 9, 12, "java/lang/IllegalArgumentException")])
def i13002 : ab_Info := (yL_signAt, cL_signAt, 13, 4, (some .int), 3, true, (fun _ => 500), (fun _ => 10000), [(0, 9, 12, "java/lang/IndexOutOfBoundsException")])
def i13003 : ab_Info := (yL_draftParts, cL_draftParts, 13, 3, (some .int), 2, true, (fun _ => 500), (fun _ => 10000), [(0, 8, 11, "java/lang/IllegalStateException")])
def i13004 : ab_Info := (yL_trial, cL_trial, 13, 6, (some .int), 5, true, (fun _ => 500), (fun _ => 10000), [(0, 12, 15, "java/lang/IllegalArgumentException"), (0, 12, 19, "java/lang/IllegalStateException")])
def i13005 : ab_Info := (yL_trialByTree, cL_trialByTree, 13, 6, (some .int), 5, true, (fun _ => 500), (fun _ => 10000), [(0, 12, 15, "java/lang/IllegalArgumentException"), (0, 12, 19, "java/lang/IllegalStateException")])
def i13006 : ab_Info := (yL_outputAt, cL_outputAt, 13, 4, (some .int), 3, true, (fun _ => 500), (fun _ => 10000), [(0, 9, 12, "java/lang/IndexOutOfBoundsException")])
def i13007 : ab_Info := (yL_cellAt, cL_cellAt, 13, 4, (some .int), 3, true, (fun _ => 500), (fun _ => 10000), [(0, 9, 12, "java/lang/IndexOutOfBoundsException")])
def i13008 : ab_Info := (yL_addExercise, cL_addExercise, 13, 5, (some .int), 4, true, (fun _ => 500), (fun _ => 10000), [(0, 10, 13, "java/lang/IllegalArgumentException"), (0, 10, 17, "java/lang/IllegalStateException")])
def i13009 : ab_Info := (yL_addTest, cL_addTest, 13, 10, (some .int), 9, true, (fun _ => 500), (fun _ => 10000), [(0, 20, 23, "java/lang/IndexOutOfBoundsException"), (0, 20, 27, "java/lang/IllegalArgumentException"), (0, 20, 31, "java/lang/IllegalStateException")])
def i13010 : ab_Info := (yL_withdraw, cL_withdraw, 13, 5, (some .int), 4, true, (fun _ => 500), (fun _ => 10000), [(0, 10, 13, "java/lang/IndexOutOfBoundsException"), (0, 10, 17, "java/lang/IllegalStateException")])
def i13011 : ab_Info := (yL_pass, cL_pass, 13, 4, (some .int), 3, true, (fun _ => 500), (fun _ => 10000), [(0, 9, 12, "java/lang/IllegalArgumentException"), (0, 9, 15, "java/lang/IllegalStateException")])
def i13012 : ab_Info := (yL_hand, cL_hand, 13, 5, (some .int), 4, true, (fun _ => 500), (fun _ => 10000), [(0, 10, 13, "java/lang/IndexOutOfBoundsException"), (0, 10, 17, "java/lang/IllegalStateException")])
def i13013 : ab_Info := (yL_passes, cL_passes, 13, 5, (some .int), 4, true, (fun _ => 500), (fun _ => 10000), [(0, 17, 20, "java/lang/IndexOutOfBoundsException")])
def i13014 : ab_Info := (yL_endOf, cL_endOf, 13, 5, (some .int), 4, true, (fun _ => 500), (fun _ => 10000), [(0, 10, 13, "java/lang/IndexOutOfBoundsException")])
def i13015 : ab_Info := (yL_points, cL_points, 13, 4, (some .int), 3, true, (fun _ => 500), (fun _ => 10000), [(0, 9, 12, "java/lang/IndexOutOfBoundsException")])
def i13016 : ab_Info := (yL_mark, cL_mark, 13, 4, (some .int), 3, true, (fun _ => 500), (fun _ => 10000), [(0, 9, 12, "java/lang/IndexOutOfBoundsException")])
def i13017 : ab_Info := (yL_markAnew, cL_markAnew, 13, 4, (some .int), 3, true, (fun _ => 500), (fun _ => 10000), [(0, 9, 12, "java/lang/IndexOutOfBoundsException")])
def i13018 : ab_Info := (yL_best, cL_best, 13, 5, (some .int), 4, true, (fun _ => 500), (fun _ => 10000), [(0, 10, 13, "java/lang/IndexOutOfBoundsException")])
def i13019 : ab_Info := (yL_passed, cL_passed, 13, 5, (some .int), 4, true, (fun _ => 500), (fun _ => 10000), [(0, 10, 13, "java/lang/IndexOutOfBoundsException")])
def i13020 : ab_Info := (yL_parts, cL_parts, 13, 4, (some .int), 3, true, (fun _ => 500), (fun _ => 10000), [(0, 9, 12, "java/lang/IndexOutOfBoundsException")])
def i13021 : ab_Info := (yL_common, cL_common, 13, 5, (some .int), 4, true, (fun _ => 500), (fun _ => 10000), [(0, 10, 13, "java/lang/IndexOutOfBoundsException")])
def i13022 : ab_Info := (yL_likeness, cL_likeness, 13, 5, (some .int), 4, true, (fun _ => 500), (fun _ => 10000), [(0, 10, 13, "java/lang/IndexOutOfBoundsException")])
def i13023 : ab_Info := (yL_accuse, cL_accuse, 13, 5, (some .int), 4, true, (fun _ => 500), (fun _ => 10000), [(0, 10, 13, "java/lang/IndexOutOfBoundsException"), (0, 10, 17, "java/lang/IllegalStateException")])
def i13024 : ab_Info := (yL_clear, cL_clear, 13, 4, (some .int), 3, true, (fun _ => 500), (fun _ => 10000), [(0, 9, 12, "java/lang/IndexOutOfBoundsException"), (0, 9, 15, "java/lang/IllegalStateException")])
def i13025 : ab_Info := (yL_doubt, cL_doubt, 13, 4, (some .int), 3, true, (fun _ => 500), (fun _ => 10000), [(0, 9, 12, "java/lang/IndexOutOfBoundsException")])
def ab_M13 : List ab_Info := [i13000, i13001, i13002, i13003, i13004, i13005, i13006, i13007, i13008, i13009, i13010, i13011, i13012, i13013, i13014, i13015, i13016, i13017, i13018, i13019, i13020, i13021, i13022, i13023, i13024, i13025]
def ab_ML : List (List ab_Info) := [[], ab_M1, ab_M2, ab_M3, ab_M4, ab_M5, ab_M6, ab_M7, ab_M8, ab_M9, ab_M10, ab_M11, ab_M12, ab_M13]
def ab_M (y : Nat) : Option ab_Info := ((ab_ML[y / 1000]?).getD [])[y % 1000]?
def ab_cT : List (Nat × Nat × Nat × Nat) := [(1, 9, 6, 1423), (2, 7, 0, 1199), (2, 38, 8, 1375), (3, 9, 6, 351), (4, 9, 9, 191), (4, 18, 6, 221), (5, 9, 6, 269), (7, 9, 6, 311), (9, 9, 6, 197), (10, 9, 6, 372), (11, 9, 6, 171), (11, 18, 4, 185), (11, 25, 5, 263), (11, 34, 7, 305), (11, 44, 3, 345), (11, 53, 10, 366), (11, 60, 0, 396), (11, 178, 2, 1193), (11, 197, 8, 1311), (11, 208, 1, 1348), (13, 8, 11, 163), (13, 102, 12, 1589)]
def ab_cR (o i : Nat) : Option Nat := (ab_cT.find? (fun q => q.2.1 == i && q.1 == o)).map (fun q => q.2.2.1)
def ab_eT : List (Nat × Nat × Nat × String) := [(11, 80, 84, "java/lang/IllegalArgumentException"), (11, 106, 110, "java/lang/IndexOutOfBoundsException"), (11, 173, 177, "java/lang/IllegalStateException")]
def ab_eR (o i : Nat) : Option (Nat × String) := (ab_eT.find? (fun q => q.2.1 == i && q.1 == o)).map (fun q => (q.2.2.1, q.2.2.2))
def ab_kT : List (Nat × Nat × Int32 × Nat) := [(3, 41, 1000000, 967), (10, 54, 1000000, 1081)]
def ab_kR (o i : Nat) : Option Int32 := (ab_kT.find? (fun q => q.2.1 == i && q.1 == o)).map (fun q => q.2.2.1)
def ab_jT : List (Nat × Nat × Int64 × Nat) := [(9, 66, 10, 506), (9, 68, 48, 507), (9, 70, 2147483648, 508), (9, 78, 2147483647, 512), (11, 319, 255, 809), (7, 88, -2147483648, 1030), (7, 90, 2147483647, 1031), (12, 179, 255, 1855), (12, 169, 10, 1859), (12, 171, 32, 1860), (12, 173, 126, 1861), (12, 209, 9999999999, 1916), (12, 211, 2147483647, 1917), (12, 222, 201, 1925), (12, 224, 183685, 1926), (12, 226, 5645591, 1927), (12, 228, 21167, 1928), (12, 230, 457, 1929), (12, 232, 6308, 1930), (12, 234, 489345202, 1931), (12, 482, 5000, 2095), (12, 424, 31, 2126), (12, 419, -2147483648, 2143), (12, 503, 2000, 2181), (12, 508, 1000, 2182), (12, 510, 2, 2191), (12, 526, 100, 2220), (12, 528, 5, 2232), (13, 105, 4294967295, 2318)]
def ab_jR (o i : Nat) : Option Int64 := (ab_jT.find? (fun q => q.2.1 == i && q.1 == o)).map (fun q => q.2.2.1)
def ab_sT : List (Nat × Nat × Nat × String) := [(9, 87, 0, "if"), (9, 93, 1, "else"), (9, 95, 2, "while"), (9, 97, 3, "out"), (9, 99, 4, "in"), (9, 101, 5, "def"), (9, 103, 6, "return")]
def ab_sR (o i : Nat) : Option Nat := (ab_sT.find? (fun q => q.2.1 == i && q.1 == o)).map (fun q => q.2.2.1)
def ab_xT : List (Nat × Nat × String) := [(11, 82, "a byte is no sign"), (11, 101, "no such count of signs"), (11, 108, "no such place"), (11, 154, "no such output"), (11, 162, "no such cell"), (11, 170, "fuel or due is out of range"), (11, 175, "there is no room for an exercise"), (11, 190, "weight or count is out of range"), (11, 195, "there is no room for a test"), (11, 228, "the test was withdrawn"), (11, 236, "days are out of range"), (11, 238, "there is no such day"), (11, 243, "there is no room for an answer"), (11, 315, "the answer cannot be accused"), (11, 317, "the answer is not struck"), (11, 321, "fuel is out of range"), (11, 323, "no such pupil"), (11, 325, "no such answer"), (11, 327, "no such exercise"), (11, 332, "no such test"), (11, 341, "the draft has a fault")]
def ab_xR (o i : Nat) : Option String := (ab_xT.find? (fun q => q.2.1 == i && q.1 == o)).map (fun q => q.2.2)
theorem ab_mT_ok : ab_mT.all (fun q => decide (q.2.2.1 < 10) || (match ab_M q.2.2.1 with | some I => decide (lw_tbl[q.2.2.2]? = some (.methodLink (ab_own q.1) q.2.1 I.1)) | none => false)) = true := by decide +kernel
theorem ab_cT_ok : ab_cT.all (fun q => decide (lw_tbl[q.2.2.2]? = some (.classLink (ab_own q.1) q.2.1 (ab_own q.2.2.1)))) = true := by decide +kernel
theorem ab_kT_ok : ab_kT.all (fun q => decide (lw_tbl[q.2.2.2]? = some (.constant (ab_own q.1) q.2.1 q.2.2.1))) = true := by decide +kernel
theorem ab_jT_ok : ab_jT.all (fun q => decide (lw_tbl[q.2.2.2]? = some (.constantLong (ab_own q.1) q.2.1 q.2.2.1))) = true := by decide +kernel
