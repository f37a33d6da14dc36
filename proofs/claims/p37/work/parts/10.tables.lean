-- resolution tables of the constant pools, with the places of their words in lw_tbl (written by a program)
def ab_own (o : Nat) : String := match o with
  | 0 => RJx4a65c
  | 1 => RX0
  | 2 => RX1
  | 3 => RX2
  | 4 => RX3
  | 5 => RX4
  | 6 => RX5
  | 7 => RX6
  | 8 => RX7
  | 9 => RX8
  | 10 => RX9
  | 11 => RX10
  | 12 => RX7
  | _ => RL
def ab_T (o : Nat) : u_T := match o with
  | 0 => TJx4a65c
  | 1 => TX0
  | 2 => TX1
  | 3 => TX2
  | 4 => TX3
  | 5 => TX4
  | 6 => TX5
  | 7 => TX6
  | 8 => TX7
  | 9 => TX8
  | 10 => TX9
  | 11 => TX10
  | _ => TX7
def ab_ty (o : Nat) : Nat → FieldType := match o with
  | 0 => tyJx4a65c
  | 1 => tyX0
  | 2 => tyX1
  | 3 => tyX2
  | 4 => tyX3
  | 5 => tyX4
  | 6 => tyX5
  | 7 => tyX6
  | 8 => tyX7
  | 9 => tyX8
  | 10 => tyX9
  | 11 => tyX10
  | _ => tyX7
def ab_nf (o : Nat) : Nat := match o with
  | 0 => 3
  | 1 => 8
  | 2 => 4
  | 3 => 4
  | 4 => 11
  | 5 => 11
  | 6 => 2
  | 7 => 9
  | 8 => 7
  | 9 => 5
  | 10 => 7
  | 11 => 14
  | 12 => 7
  | _ => 0
def ab_fT : List (Nat × Nat × Nat × Nat × Nat) := [(1, 14, 1, 4, 1296), (1, 20, 1, 5, 1298), (1, 23, 1, 6, 1300), (1, 26, 1, 0, 1289), (1, 30, 1, 1, 1291), (1, 34, 1, 3, 1295), (1, 37, 1, 2, 1293), (1, 51, 1, 7, 1302), (1, 55, 2, 2, 1433), (2, 10, 2, 3, 1434), (2, 16, 2, 0, 1428), (2, 20, 2, 1, 1430), (2, 23, 2, 2, 1432), (2, 40, 8, 6, 1468), (2, 44, 8, 0, 1460), (3, 14, 3, 0, 281), (3, 20, 3, 1, 282), (3, 24, 3, 2, 283), (3, 37, 3, 3, 284), (4, 12, 4, 0, 151), (4, 23, 4, 1, 155), (4, 27, 4, 2, 156), (4, 30, 4, 3, 157), (4, 33, 4, 4, 158), (4, 36, 4, 5, 159), (4, 39, 4, 6, 160), (4, 42, 4, 7, 161), (4, 45, 4, 8, 162), (4, 48, 4, 9, 163), (4, 87, 9, 0, 130), (5, 14, 5, 6, 205), (5, 20, 5, 7, 206), (5, 23, 5, 8, 207), (5, 26, 5, 9, 208), (5, 29, 5, 10, 209), (5, 32, 5, 0, 199), (5, 36, 4, 0, 153), (5, 42, 5, 1, 200), (5, 46, 5, 2, 201), (5, 56, 5, 3, 202), (5, 59, 5, 4, 203), (5, 62, 5, 5, 204), (5, 87, 4, 9, 164), (5, 90, 9, 0, 129), (5, 93, 4, 10, 166), (5, 163, 9, 1, 133), (6, 9, 6, 0, 105), (6, 15, 6, 1, 106), (7, 14, 7, 0, 245), (7, 20, 7, 1, 246), (7, 23, 7, 2, 247), (7, 26, 7, 3, 248), (7, 29, 7, 8, 253), (7, 39, 7, 4, 249), (7, 42, 7, 5, 250), (7, 45, 7, 6, 251), (7, 48, 7, 7, 252), (8, 9, 8, 0, 1459), (8, 15, 8, 1, 1461), (8, 18, 8, 2, 1463), (8, 21, 8, 3, 1465), (8, 24, 8, 4, 1466), (8, 27, 8, 5, 1467), (9, 14, 9, 0, 127), (9, 20, 9, 1, 131), (9, 23, 9, 2, 134), (9, 26, 9, 3, 136), (9, 29, 9, 4, 137), (10, 14, 10, 0, 302), (10, 20, 10, 1, 303), (10, 23, 10, 2, 304), (10, 27, 4, 0, 152), (10, 33, 10, 3, 305), (10, 34, 10, 4, 306), (10, 47, 10, 5, 307), (10, 51, 10, 6, 308), (10, 68, 9, 0, 128), (10, 83, 9, 1, 132), (11, 14, 11, 0, 350), (11, 21, 11, 1, 351), (11, 30, 11, 4, 354), (11, 37, 11, 5, 355), (11, 41, 11, 6, 356), (11, 49, 11, 7, 357), (11, 56, 11, 8, 358), (11, 63, 11, 9, 359), (11, 67, 11, 10, 360), (11, 70, 11, 11, 361), (11, 73, 11, 12, 362), (11, 94, 11, 2, 352), (11, 118, 4, 9, 165), (11, 122, 4, 0, 154), (11, 126, 9, 2, 135), (11, 131, 4, 10, 167), (11, 167, 11, 13, 363), (11, 210, 1, 1, 1292), (11, 214, 2, 0, 1429), (11, 225, 8, 6, 1469), (11, 248, 11, 3, 353), (11, 251, 1, 6, 1301), (11, 254, 1, 2, 1294), (11, 265, 1, 5, 1299), (11, 268, 1, 4, 1297), (11, 275, 2, 1, 1431), (11, 277, 8, 1, 1462), (11, 280, 8, 2, 1464), (11, 290, 1, 0, 1290), (11, 308, 1, 7, 1303)]
def ab_fR (o i : Nat) : Option (Nat × Nat) := (ab_fT.find? (fun q => q.2.1 == i && q.1 == o)).map (fun q => (q.2.2.1, q.2.2.2.1))
theorem ab_fT_ok : ab_fT.all (fun q => decide (lw_tbl[q.2.2.2.2]? = some (.fieldLink (ab_own q.1) q.2.1 (ab_T q.2.2.1 q.2.2.2.1).1 (ab_T q.2.2.1 q.2.2.2.1).2.1 (ab_T q.2.2.1 q.2.2.2.1).2.2.1)) && decide (q.2.2.2.1 < ab_nf q.2.2.1) && decide (q.2.2.1 < 13) && decide (q.1 < 14)) = true := by decide +kernel
theorem fR_1_14 : ab_fR 1 14 = some (1, 4) := by decide +kernel
theorem fR_1_20 : ab_fR 1 20 = some (1, 5) := by decide +kernel
theorem fR_1_23 : ab_fR 1 23 = some (1, 6) := by decide +kernel
theorem fR_1_26 : ab_fR 1 26 = some (1, 0) := by decide +kernel
theorem fR_1_30 : ab_fR 1 30 = some (1, 1) := by decide +kernel
theorem fR_1_34 : ab_fR 1 34 = some (1, 3) := by decide +kernel
theorem fR_1_37 : ab_fR 1 37 = some (1, 2) := by decide +kernel
theorem fR_1_51 : ab_fR 1 51 = some (1, 7) := by decide +kernel
theorem fR_1_55 : ab_fR 1 55 = some (2, 2) := by decide +kernel
theorem fR_2_10 : ab_fR 2 10 = some (2, 3) := by decide +kernel
theorem fR_2_16 : ab_fR 2 16 = some (2, 0) := by decide +kernel
theorem fR_2_20 : ab_fR 2 20 = some (2, 1) := by decide +kernel
theorem fR_2_23 : ab_fR 2 23 = some (2, 2) := by decide +kernel
theorem fR_2_40 : ab_fR 2 40 = some (8, 6) := by decide +kernel
theorem fR_2_44 : ab_fR 2 44 = some (8, 0) := by decide +kernel
theorem fR_3_14 : ab_fR 3 14 = some (3, 0) := by decide +kernel
theorem fR_3_20 : ab_fR 3 20 = some (3, 1) := by decide +kernel
theorem fR_3_24 : ab_fR 3 24 = some (3, 2) := by decide +kernel
theorem fR_3_37 : ab_fR 3 37 = some (3, 3) := by decide +kernel
theorem fR_4_12 : ab_fR 4 12 = some (4, 0) := by decide +kernel
theorem fR_4_23 : ab_fR 4 23 = some (4, 1) := by decide +kernel
theorem fR_4_27 : ab_fR 4 27 = some (4, 2) := by decide +kernel
theorem fR_4_30 : ab_fR 4 30 = some (4, 3) := by decide +kernel
theorem fR_4_33 : ab_fR 4 33 = some (4, 4) := by decide +kernel
theorem fR_4_36 : ab_fR 4 36 = some (4, 5) := by decide +kernel
theorem fR_4_39 : ab_fR 4 39 = some (4, 6) := by decide +kernel
theorem fR_4_42 : ab_fR 4 42 = some (4, 7) := by decide +kernel
theorem fR_4_45 : ab_fR 4 45 = some (4, 8) := by decide +kernel
theorem fR_4_48 : ab_fR 4 48 = some (4, 9) := by decide +kernel
theorem fR_4_87 : ab_fR 4 87 = some (9, 0) := by decide +kernel
theorem fR_5_14 : ab_fR 5 14 = some (5, 6) := by decide +kernel
theorem fR_5_20 : ab_fR 5 20 = some (5, 7) := by decide +kernel
theorem fR_5_23 : ab_fR 5 23 = some (5, 8) := by decide +kernel
theorem fR_5_26 : ab_fR 5 26 = some (5, 9) := by decide +kernel
theorem fR_5_29 : ab_fR 5 29 = some (5, 10) := by decide +kernel
theorem fR_5_32 : ab_fR 5 32 = some (5, 0) := by decide +kernel
theorem fR_5_36 : ab_fR 5 36 = some (4, 0) := by decide +kernel
theorem fR_5_42 : ab_fR 5 42 = some (5, 1) := by decide +kernel
theorem fR_5_46 : ab_fR 5 46 = some (5, 2) := by decide +kernel
theorem fR_5_56 : ab_fR 5 56 = some (5, 3) := by decide +kernel
theorem fR_5_59 : ab_fR 5 59 = some (5, 4) := by decide +kernel
theorem fR_5_62 : ab_fR 5 62 = some (5, 5) := by decide +kernel
theorem fR_5_87 : ab_fR 5 87 = some (4, 9) := by decide +kernel
theorem fR_5_90 : ab_fR 5 90 = some (9, 0) := by decide +kernel
theorem fR_5_93 : ab_fR 5 93 = some (4, 10) := by decide +kernel
theorem fR_5_163 : ab_fR 5 163 = some (9, 1) := by decide +kernel
theorem fR_6_9 : ab_fR 6 9 = some (6, 0) := by decide +kernel
theorem fR_6_15 : ab_fR 6 15 = some (6, 1) := by decide +kernel
theorem fR_7_14 : ab_fR 7 14 = some (7, 0) := by decide +kernel
theorem fR_7_20 : ab_fR 7 20 = some (7, 1) := by decide +kernel
theorem fR_7_23 : ab_fR 7 23 = some (7, 2) := by decide +kernel
theorem fR_7_26 : ab_fR 7 26 = some (7, 3) := by decide +kernel
theorem fR_7_29 : ab_fR 7 29 = some (7, 8) := by decide +kernel
theorem fR_7_39 : ab_fR 7 39 = some (7, 4) := by decide +kernel
theorem fR_7_42 : ab_fR 7 42 = some (7, 5) := by decide +kernel
theorem fR_7_45 : ab_fR 7 45 = some (7, 6) := by decide +kernel
theorem fR_7_48 : ab_fR 7 48 = some (7, 7) := by decide +kernel
theorem fR_8_9 : ab_fR 8 9 = some (8, 0) := by decide +kernel
theorem fR_8_15 : ab_fR 8 15 = some (8, 1) := by decide +kernel
theorem fR_8_18 : ab_fR 8 18 = some (8, 2) := by decide +kernel
theorem fR_8_21 : ab_fR 8 21 = some (8, 3) := by decide +kernel
theorem fR_8_24 : ab_fR 8 24 = some (8, 4) := by decide +kernel
theorem fR_8_27 : ab_fR 8 27 = some (8, 5) := by decide +kernel
theorem fR_9_14 : ab_fR 9 14 = some (9, 0) := by decide +kernel
theorem fR_9_20 : ab_fR 9 20 = some (9, 1) := by decide +kernel
theorem fR_9_23 : ab_fR 9 23 = some (9, 2) := by decide +kernel
theorem fR_9_26 : ab_fR 9 26 = some (9, 3) := by decide +kernel
theorem fR_9_29 : ab_fR 9 29 = some (9, 4) := by decide +kernel
theorem fR_10_14 : ab_fR 10 14 = some (10, 0) := by decide +kernel
theorem fR_10_20 : ab_fR 10 20 = some (10, 1) := by decide +kernel
theorem fR_10_23 : ab_fR 10 23 = some (10, 2) := by decide +kernel
theorem fR_10_27 : ab_fR 10 27 = some (4, 0) := by decide +kernel
theorem fR_10_33 : ab_fR 10 33 = some (10, 3) := by decide +kernel
theorem fR_10_34 : ab_fR 10 34 = some (10, 4) := by decide +kernel
theorem fR_10_47 : ab_fR 10 47 = some (10, 5) := by decide +kernel
theorem fR_10_51 : ab_fR 10 51 = some (10, 6) := by decide +kernel
theorem fR_10_68 : ab_fR 10 68 = some (9, 0) := by decide +kernel
theorem fR_10_83 : ab_fR 10 83 = some (9, 1) := by decide +kernel
theorem fR_11_14 : ab_fR 11 14 = some (11, 0) := by decide +kernel
theorem fR_11_21 : ab_fR 11 21 = some (11, 1) := by decide +kernel
theorem fR_11_30 : ab_fR 11 30 = some (11, 4) := by decide +kernel
theorem fR_11_37 : ab_fR 11 37 = some (11, 5) := by decide +kernel
theorem fR_11_41 : ab_fR 11 41 = some (11, 6) := by decide +kernel
theorem fR_11_49 : ab_fR 11 49 = some (11, 7) := by decide +kernel
theorem fR_11_56 : ab_fR 11 56 = some (11, 8) := by decide +kernel
theorem fR_11_63 : ab_fR 11 63 = some (11, 9) := by decide +kernel
theorem fR_11_67 : ab_fR 11 67 = some (11, 10) := by decide +kernel
theorem fR_11_70 : ab_fR 11 70 = some (11, 11) := by decide +kernel
theorem fR_11_73 : ab_fR 11 73 = some (11, 12) := by decide +kernel
theorem fR_11_94 : ab_fR 11 94 = some (11, 2) := by decide +kernel
theorem fR_11_118 : ab_fR 11 118 = some (4, 9) := by decide +kernel
theorem fR_11_122 : ab_fR 11 122 = some (4, 0) := by decide +kernel
theorem fR_11_126 : ab_fR 11 126 = some (9, 2) := by decide +kernel
theorem fR_11_131 : ab_fR 11 131 = some (4, 10) := by decide +kernel
theorem fR_11_167 : ab_fR 11 167 = some (11, 13) := by decide +kernel
theorem fR_11_210 : ab_fR 11 210 = some (1, 1) := by decide +kernel
theorem fR_11_214 : ab_fR 11 214 = some (2, 0) := by decide +kernel
theorem fR_11_225 : ab_fR 11 225 = some (8, 6) := by decide +kernel
theorem fR_11_248 : ab_fR 11 248 = some (11, 3) := by decide +kernel
theorem fR_11_251 : ab_fR 11 251 = some (1, 6) := by decide +kernel
theorem fR_11_254 : ab_fR 11 254 = some (1, 2) := by decide +kernel
theorem fR_11_265 : ab_fR 11 265 = some (1, 5) := by decide +kernel
theorem fR_11_268 : ab_fR 11 268 = some (1, 4) := by decide +kernel
theorem fR_11_275 : ab_fR 11 275 = some (2, 1) := by decide +kernel
theorem fR_11_277 : ab_fR 11 277 = some (8, 1) := by decide +kernel
theorem fR_11_280 : ab_fR 11 280 = some (8, 2) := by decide +kernel
theorem fR_11_290 : ab_fR 11 290 = some (1, 0) := by decide +kernel
theorem fR_11_308 : ab_fR 11 308 = some (1, 7) := by decide +kernel
theorem ft_0_0 : ab_ty 0 0 = .int := rfl
theorem fn_0_0 : (ab_T 0 0).2.2.2 = false := rfl
theorem ft_0_1 : ab_ty 0 1 = .array (.object "java/lang/Object") := rfl
theorem fn_0_1 : (ab_T 0 1).2.2.2 = false := rfl
theorem ft_0_2 : ab_ty 0 2 = .int := rfl
theorem fn_0_2 : (ab_T 0 2).2.2.2 = false := rfl
theorem ft_1_0 : ab_ty 1 0 = .int := rfl
theorem fn_1_0 : (ab_T 1 0).2.2.2 = true := rfl
theorem ft_1_1 : ab_ty 1 1 = .object "ProgramSchool$Exercise" := rfl
theorem fn_1_1 : (ab_T 1 1).2.2.2 = true := rfl
theorem ft_1_2 : ab_ty 1 2 = .object "ProgramSchool$Program" := rfl
theorem fn_1_2 : (ab_T 1 2).2.2.2 = true := rfl
theorem ft_1_3 : ab_ty 1 3 = .int := rfl
theorem fn_1_3 : (ab_T 1 3).2.2.2 = true := rfl
theorem ft_1_4 : ab_ty 1 4 = .object "ProgramSchool$Row" := rfl
theorem fn_1_4 : (ab_T 1 4).2.2.2 = true := rfl
theorem ft_1_5 : ab_ty 1 5 = .object "ProgramSchool$Row" := rfl
theorem fn_1_5 : (ab_T 1 5).2.2.2 = true := rfl
theorem ft_1_6 : ab_ty 1 6 = .object "ProgramSchool$Row" := rfl
theorem fn_1_6 : (ab_T 1 6).2.2.2 = true := rfl
theorem ft_1_7 : ab_ty 1 7 = .boolean := rfl
theorem fn_1_7 : (ab_T 1 7).2.2.2 = false := rfl
theorem ft_2_0 : ab_ty 2 0 = .int := rfl
theorem fn_2_0 : (ab_T 2 0).2.2.2 = true := rfl
theorem ft_2_1 : ab_ty 2 1 = .int := rfl
theorem fn_2_1 : (ab_T 2 1).2.2.2 = true := rfl
theorem ft_2_2 : ab_ty 2 2 = .int := rfl
theorem fn_2_2 : (ab_T 2 2).2.2.2 = true := rfl
theorem ft_2_3 : ab_ty 2 3 = .object "java/util/ArrayList" := rfl
theorem fn_2_3 : (ab_T 2 3).2.2.2 = true := rfl
theorem ft_3_0 : ab_ty 3 0 = .object "ProgramSchool$Row" := rfl
theorem fn_3_0 : (ab_T 3 0).2.2.2 = true := rfl
theorem ft_3_1 : ab_ty 3 1 = .object "ProgramSchool$Program" := rfl
theorem fn_3_1 : (ab_T 3 1).2.2.2 = false := rfl
theorem ft_3_2 : ab_ty 3 2 = .object "ProgramSchool$Run" := rfl
theorem fn_3_2 : (ab_T 3 2).2.2.2 = false := rfl
theorem ft_3_3 : ab_ty 3 3 = .int := rfl
theorem fn_3_3 : (ab_T 3 3).2.2.2 = false := rfl
theorem ft_4_0 : ab_ty 4 0 = .object "ProgramSchool$Tokens" := rfl
theorem fn_4_0 : (ab_T 4 0).2.2.2 = true := rfl
theorem ft_4_1 : ab_ty 4 1 = .object "ProgramSchool$Row" := rfl
theorem fn_4_1 : (ab_T 4 1).2.2.2 = true := rfl
theorem ft_4_2 : ab_ty 4 2 = .object "ProgramSchool$Row" := rfl
theorem fn_4_2 : (ab_T 4 2).2.2.2 = true := rfl
theorem ft_4_3 : ab_ty 4 3 = .object "ProgramSchool$Row" := rfl
theorem fn_4_3 : (ab_T 4 3).2.2.2 = true := rfl
theorem ft_4_4 : ab_ty 4 4 = .object "ProgramSchool$Row" := rfl
theorem fn_4_4 : (ab_T 4 4).2.2.2 = true := rfl
theorem ft_4_5 : ab_ty 4 5 = .object "ProgramSchool$Row" := rfl
theorem fn_4_5 : (ab_T 4 5).2.2.2 = true := rfl
theorem ft_4_6 : ab_ty 4 6 = .object "ProgramSchool$Row" := rfl
theorem fn_4_6 : (ab_T 4 6).2.2.2 = true := rfl
theorem ft_4_7 : ab_ty 4 7 = .object "ProgramSchool$Row" := rfl
theorem fn_4_7 : (ab_T 4 7).2.2.2 = true := rfl
theorem ft_4_8 : ab_ty 4 8 = .object "ProgramSchool$Row" := rfl
theorem fn_4_8 : (ab_T 4 8).2.2.2 = true := rfl
theorem ft_4_9 : ab_ty 4 9 = .int := rfl
theorem fn_4_9 : (ab_T 4 9).2.2.2 = false := rfl
theorem ft_4_10 : ab_ty 4 10 = .int := rfl
theorem fn_4_10 : (ab_T 4 10).2.2.2 = false := rfl
theorem ft_5_0 : ab_ty 5 0 = .object "ProgramSchool$Program" := rfl
theorem fn_5_0 : (ab_T 5 0).2.2.2 = false := rfl
theorem ft_5_1 : ab_ty 5 1 = .object "ProgramSchool$Tokens" := rfl
theorem fn_5_1 : (ab_T 5 1).2.2.2 = false := rfl
theorem ft_5_2 : ab_ty 5 2 = .int := rfl
theorem fn_5_2 : (ab_T 5 2).2.2.2 = false := rfl
theorem ft_5_3 : ab_ty 5 3 = .int := rfl
theorem fn_5_3 : (ab_T 5 3).2.2.2 = false := rfl
theorem ft_5_4 : ab_ty 5 4 = .int := rfl
theorem fn_5_4 : (ab_T 5 4).2.2.2 = false := rfl
theorem ft_5_5 : ab_ty 5 5 = .boolean := rfl
theorem fn_5_5 : (ab_T 5 5).2.2.2 = false := rfl
theorem ft_5_6 : ab_ty 5 6 = .object "ProgramSchool$Row" := rfl
theorem fn_5_6 : (ab_T 5 6).2.2.2 = true := rfl
theorem ft_5_7 : ab_ty 5 7 = .object "ProgramSchool$Row" := rfl
theorem fn_5_7 : (ab_T 5 7).2.2.2 = true := rfl
theorem ft_5_8 : ab_ty 5 8 = .object "ProgramSchool$Row" := rfl
theorem fn_5_8 : (ab_T 5 8).2.2.2 = true := rfl
theorem ft_5_9 : ab_ty 5 9 = .object "ProgramSchool$Row" := rfl
theorem fn_5_9 : (ab_T 5 9).2.2.2 = true := rfl
theorem ft_5_10 : ab_ty 5 10 = .object "ProgramSchool$Row" := rfl
theorem fn_5_10 : (ab_T 5 10).2.2.2 = true := rfl
theorem ft_6_0 : ab_ty 6 0 = .array .int := rfl
theorem fn_6_0 : (ab_T 6 0).2.2.2 = true := rfl
theorem ft_6_1 : ab_ty 6 1 = .int := rfl
theorem fn_6_1 : (ab_T 6 1).2.2.2 = false := rfl
theorem ft_7_0 : ab_ty 7 0 = .object "ProgramSchool$Row" := rfl
theorem fn_7_0 : (ab_T 7 0).2.2.2 = true := rfl
theorem ft_7_1 : ab_ty 7 1 = .object "ProgramSchool$Row" := rfl
theorem fn_7_1 : (ab_T 7 1).2.2.2 = true := rfl
theorem ft_7_2 : ab_ty 7 2 = .object "ProgramSchool$Row" := rfl
theorem fn_7_2 : (ab_T 7 2).2.2.2 = true := rfl
theorem ft_7_3 : ab_ty 7 3 = .object "ProgramSchool$Row" := rfl
theorem fn_7_3 : (ab_T 7 3).2.2.2 = true := rfl
theorem ft_7_4 : ab_ty 7 4 = .int := rfl
theorem fn_7_4 : (ab_T 7 4).2.2.2 = false := rfl
theorem ft_7_5 : ab_ty 7 5 = .int := rfl
theorem fn_7_5 : (ab_T 7 5).2.2.2 = false := rfl
theorem ft_7_6 : ab_ty 7 6 = .int := rfl
theorem fn_7_6 : (ab_T 7 6).2.2.2 = false := rfl
theorem ft_7_7 : ab_ty 7 7 = .int := rfl
theorem fn_7_7 : (ab_T 7 7).2.2.2 = false := rfl
theorem ft_7_8 : ab_ty 7 8 = .int := rfl
theorem fn_7_8 : (ab_T 7 8).2.2.2 = false := rfl
theorem ft_8_0 : ab_ty 8 0 = .int := rfl
theorem fn_8_0 : (ab_T 8 0).2.2.2 = true := rfl
theorem ft_8_1 : ab_ty 8 1 = .int := rfl
theorem fn_8_1 : (ab_T 8 1).2.2.2 = true := rfl
theorem ft_8_2 : ab_ty 8 2 = .int := rfl
theorem fn_8_2 : (ab_T 8 2).2.2.2 = true := rfl
theorem ft_8_3 : ab_ty 8 3 = .int := rfl
theorem fn_8_3 : (ab_T 8 3).2.2.2 = true := rfl
theorem ft_8_4 : ab_ty 8 4 = .int := rfl
theorem fn_8_4 : (ab_T 8 4).2.2.2 = true := rfl
theorem ft_8_5 : ab_ty 8 5 = .int := rfl
theorem fn_8_5 : (ab_T 8 5).2.2.2 = true := rfl
theorem ft_8_6 : ab_ty 8 6 = .boolean := rfl
theorem fn_8_6 : (ab_T 8 6).2.2.2 = false := rfl
theorem ft_9_0 : ab_ty 9 0 = .object "ProgramSchool$Row" := rfl
theorem fn_9_0 : (ab_T 9 0).2.2.2 = true := rfl
theorem ft_9_1 : ab_ty 9 1 = .object "ProgramSchool$Row" := rfl
theorem fn_9_1 : (ab_T 9 1).2.2.2 = true := rfl
theorem ft_9_2 : ab_ty 9 2 = .object "ProgramSchool$Row" := rfl
theorem fn_9_2 : (ab_T 9 2).2.2.2 = true := rfl
theorem ft_9_3 : ab_ty 9 3 = .object "ProgramSchool$Row" := rfl
theorem fn_9_3 : (ab_T 9 3).2.2.2 = true := rfl
theorem ft_9_4 : ab_ty 9 4 = .object "ProgramSchool$Row" := rfl
theorem fn_9_4 : (ab_T 9 4).2.2.2 = true := rfl
theorem ft_10_0 : ab_ty 10 0 = .object "ProgramSchool$Row" := rfl
theorem fn_10_0 : (ab_T 10 0).2.2.2 = true := rfl
theorem ft_10_1 : ab_ty 10 1 = .object "ProgramSchool$Row" := rfl
theorem fn_10_1 : (ab_T 10 1).2.2.2 = true := rfl
theorem ft_10_2 : ab_ty 10 2 = .object "ProgramSchool$Program" := rfl
theorem fn_10_2 : (ab_T 10 2).2.2.2 = false := rfl
theorem ft_10_3 : ab_ty 10 3 = .object "ProgramSchool$Tokens" := rfl
theorem fn_10_3 : (ab_T 10 3).2.2.2 = false := rfl
theorem ft_10_4 : ab_ty 10 4 = .object "ProgramSchool$Run" := rfl
theorem fn_10_4 : (ab_T 10 4).2.2.2 = false := rfl
theorem ft_10_5 : ab_ty 10 5 = .int := rfl
theorem fn_10_5 : (ab_T 10 5).2.2.2 = false := rfl
theorem ft_10_6 : ab_ty 10 6 = .int := rfl
theorem fn_10_6 : (ab_T 10 6).2.2.2 = false := rfl
theorem ft_11_0 : ab_ty 11 0 = .object "ProgramSchool$Row" := rfl
theorem fn_11_0 : (ab_T 11 0).2.2.2 = true := rfl
theorem ft_11_1 : ab_ty 11 1 = .object "ProgramSchool$Program" := rfl
theorem fn_11_1 : (ab_T 11 1).2.2.2 = false := rfl
theorem ft_11_2 : ab_ty 11 2 = .boolean := rfl
theorem fn_11_2 : (ab_T 11 2).2.2.2 = false := rfl
theorem ft_11_3 : ab_ty 11 3 = .boolean := rfl
theorem fn_11_3 : (ab_T 11 3).2.2.2 = false := rfl
theorem ft_11_4 : ab_ty 11 4 = .object "ProgramSchool$Reader" := rfl
theorem fn_11_4 : (ab_T 11 4).2.2.2 = true := rfl
theorem ft_11_5 : ab_ty 11 5 = .object "ProgramSchool$Run" := rfl
theorem fn_11_5 : (ab_T 11 5).2.2.2 = true := rfl
theorem ft_11_6 : ab_ty 11 6 = .object "ProgramSchool$Run" := rfl
theorem fn_11_6 : (ab_T 11 6).2.2.2 = true := rfl
theorem ft_11_7 : ab_ty 11 7 = .object "ProgramSchool$Machine" := rfl
theorem fn_11_7 : (ab_T 11 7).2.2.2 = true := rfl
theorem ft_11_8 : ab_ty 11 8 = .object "ProgramSchool$Walker" := rfl
theorem fn_11_8 : (ab_T 11 8).2.2.2 = true := rfl
theorem ft_11_9 : ab_ty 11 9 = .object "java/util/ArrayList" := rfl
theorem fn_11_9 : (ab_T 11 9).2.2.2 = true := rfl
theorem ft_11_10 : ab_ty 11 10 = .object "java/util/ArrayList" := rfl
theorem fn_11_10 : (ab_T 11 10).2.2.2 = true := rfl
theorem ft_11_11 : ab_ty 11 11 = .object "ProgramSchool$Row" := rfl
theorem fn_11_11 : (ab_T 11 11).2.2.2 = true := rfl
theorem ft_11_12 : ab_ty 11 12 = .object "ProgramSchool$Row" := rfl
theorem fn_11_12 : (ab_T 11 12).2.2.2 = true := rfl
theorem ft_11_13 : ab_ty 11 13 = .int := rfl
theorem fn_11_13 : (ab_T 11 13).2.2.2 = false := rfl
theorem ft_12_0 : ab_ty 12 0 = .int := rfl
theorem fn_12_0 : (ab_T 12 0).2.2.2 = true := rfl
theorem ft_12_1 : ab_ty 12 1 = .int := rfl
theorem fn_12_1 : (ab_T 12 1).2.2.2 = true := rfl
theorem ft_12_2 : ab_ty 12 2 = .int := rfl
theorem fn_12_2 : (ab_T 12 2).2.2.2 = true := rfl
theorem ft_12_3 : ab_ty 12 3 = .int := rfl
theorem fn_12_3 : (ab_T 12 3).2.2.2 = true := rfl
theorem ft_12_4 : ab_ty 12 4 = .int := rfl
theorem fn_12_4 : (ab_T 12 4).2.2.2 = true := rfl
theorem ft_12_5 : ab_ty 12 5 = .int := rfl
theorem fn_12_5 : (ab_T 12 5).2.2.2 = true := rfl
theorem ft_12_6 : ab_ty 12 6 = .boolean := rfl
theorem fn_12_6 : (ab_T 12 6).2.2.2 = false := rfl
def ab_mT : List (Nat × Nat × Nat × Nat) := [(1, 3, 0, 1286), (1, 11, 6000, 1288), (1, 41, 2004, 543), (1, 47, 1002, 548), (1, 58, 1, 552), (1, 64, 2, 555), (2, 1, 0, 1425), (2, 9, 4, 1427), (2, 26, 7, 1489), (2, 30, 5, 522), (2, 34, 6, 523), (2, 47, 6002, 547), (3, 3, 0, 278), (3, 11, 6000, 280), (3, 28, 7001, 1183), (3, 34, 6008, 1184), (3, 42, 7002, 1186), (3, 46, 4007, 1187), (3, 52, 4008, 1191), (3, 55, 3002, 1195), (3, 59, 3003, 1209), (3, 62, 7009, 1199), (3, 65, 6004, 1200), (3, 68, 7013, 1201), (3, 71, 6006, 1202), (3, 75, 7014, 1203), (3, 78, 7012, 1204), (3, 81, 7010, 1205), (3, 84, 7011, 1206), (3, 87, 7017, 1207), (3, 91, 7018, 1208), (3, 95, 3004, 1213), (3, 99, 3005, 1217), (3, 102, 7016, 1227), (3, 105, 7008, 1228), (3, 108, 7015, 1221), (3, 112, 4013, 1222), (3, 115, 4015, 1223), (4, 3, 0, 118), (4, 20, 6000, 150), (4, 52, 6008, 929), (4, 55, 6004, 948), (4, 58, 6001, 949), (4, 62, 6003, 1010), (4, 66, 6002, 679), (4, 70, 6010, 1035), (4, 73, 4004, 1325), (4, 76, 6009, 1326), (4, 79, 4017, 1327), (4, 83, 4018, 1331), (5, 3, 0, 196), (5, 11, 6000, 198), (5, 43, 4001, 925), (5, 50, 9002, 930), (5, 66, 6008, 934), (5, 69, 5003, 935), (5, 72, 5008, 940), (5, 77, 4005, 950), (5, 81, 5002, 1060), (5, 84, 5023, 1064), (5, 96, 6002, 939), (5, 100, 5005, 969), (5, 104, 4002, 944), (5, 107, 5009, 954), (5, 110, 5010, 1011), (5, 113, 5018, 973), (5, 116, 5006, 985), (5, 119, 5011, 1015), (5, 122, 5012, 1023), (5, 125, 5014, 1027), (5, 128, 5013, 1052), (5, 131, 4003, 1056), (5, 134, 5021, 958), (5, 137, 5004, 989), (5, 141, 5022, 993), (5, 145, 6003, 964), (5, 148, 5007, 965), (5, 151, 5019, 977), (5, 154, 5017, 1019), (5, 157, 4006, 1002), (5, 160, 4009, 1006), (5, 166, 4012, 1031), (5, 169, 4010, 1036), (5, 172, 5015, 1040), (5, 175, 6001, 962), (5, 178, 4011, 1048), (5, 182, 5016, 1044), (5, 185, 6010, 997), (5, 188, 9003, 1001), (5, 191, 5020, 981), (5, 194, 6004, 963), (5, 197, 4013, 1068), (6, 3, 0, 104), (7, 3, 0, 238), (7, 11, 6000, 240), (7, 33, 6009, 241), (7, 36, 6008, 589), (7, 51, 6001, 647), (7, 55, 6002, 651), (7, 59, 7008, 629), (7, 62, 7002, 630), (7, 66, 7009, 656), (7, 69, 6004, 666), (7, 72, 6003, 671), (7, 76, 7014, 667), (7, 79, 6006, 621), (7, 82, 7019, 701), (8, 3, 0, 1458), (8, 30, 7003, 743), (8, 36, 7005, 747), (8, 39, 7006, 751), (9, 3, 0, 124), (9, 11, 6000, 126), (9, 32, 6008, 816), (9, 35, 6001, 817), (9, 39, 6002, 818), (9, 43, 9014, 819), (9, 47, 9005, 822), (9, 51, 9015, 838), (9, 54, 9006, 841), (9, 57, 9011, 911), (9, 60, 9004, 833), (9, 64, 6004, 837), (9, 72, 3, 829), (9, 80, 9007, 845), (9, 84, 9009, 904), (9, 89, 9008, 849), (9, 105, 8, 852), (9, 110, 9, 862), (9, 114, 9010, 908), (9, 118, 9012, 915), (9, 122, 9013, 918), (10, 3, 0, 299), (10, 11, 6000, 301), (10, 38, 7001, 585), (10, 44, 6008, 590), (10, 55, 7002, 592), (10, 59, 10002, 596), (10, 62, 10005, 635), (10, 65, 10007, 685), (10, 73, 6002, 600), (10, 77, 7008, 601), (10, 80, 10004, 605), (10, 84, 7009, 625), (10, 87, 10003, 631), (10, 90, 6004, 609), (10, 93, 10014, 613), (10, 96, 10006, 639), (10, 99, 7013, 643), (10, 102, 7010, 652), (10, 106, 10013, 657), (10, 109, 9003, 689), (10, 112, 10008, 692), (10, 115, 10010, 711), (10, 118, 10009, 735), (10, 122, 6001, 696), (10, 125, 6006, 661), (10, 128, 7017, 697), (10, 132, 7018, 707), (10, 136, 6005, 715), (10, 139, 10011, 719), (10, 143, 7014, 680), (10, 146, 7012, 723), (10, 149, 7011, 727), (10, 152, 10012, 731), (10, 155, 7015, 662), (10, 159, 4013, 675), (10, 162, 4014, 681), (10, 165, 7016, 617), (11, 3, 0, 96), (11, 11, 6000, 101), (11, 27, 5000, 193), (11, 36, 7000, 235), (11, 46, 3000, 275), (11, 55, 10000, 296), (11, 62, 4, 326), (11, 76, 11035, 1111), (11, 87, 6001, 796), (11, 91, 6004, 755), (11, 98, 6008, 573), (11, 103, 6007, 1405), (11, 111, 6002, 526), (11, 115, 11042, 808), (11, 134, 11043, 1077), (11, 137, 4004, 1097), (11, 140, 11036, 1175), (11, 143, 3001, 1179), (11, 147, 7003, 1229), (11, 150, 10001, 581), (11, 151, 7005, 1242), (11, 156, 7006, 1251), (11, 159, 7004, 1234), (11, 164, 7007, 1260), (11, 172, 5, 401), (11, 180, 2000, 1422), (11, 183, 7, 1339), (11, 186, 11040, 771), (11, 192, 2002, 577), (11, 199, 8000, 1455), (11, 202, 2001, 1485), (11, 205, 6, 500), (11, 217, 11044, 1335), (11, 221, 11041, 515), (11, 230, 11045, 1498), (11, 233, 1001, 539), (11, 240, 11037, 784), (11, 245, 1000, 1283), (11, 257, 4016, 1321), (11, 261, 11039, 428), (11, 271, 2004, 565), (11, 283, 8001, 739), (11, 287, 1002, 756), (11, 293, 1, 788), (11, 299, 11038, 1528), (11, 302, 11046, 1532), (11, 305, 11047, 1544), (11, 311, 11048, 1555), (11, 329, 2003, 518), (11, 334, 9001, 812), (11, 338, 5001, 921), (11, 343, 2, 1536), (13, 10, 11001, 1107), (13, 19, 11003, 1400), (13, 23, 11005, 1147), (13, 30, 11008, 1073), (13, 37, 11009, 1171), (13, 41, 11010, 1267), (13, 44, 11012, 1246), (13, 47, 11014, 1255), (13, 50, 11015, 1415), (13, 54, 11016, 1447), (13, 58, 11017, 1493), (13, 61, 11018, 1505), (13, 64, 11020, 1277), (13, 67, 11022, 424), (13, 71, 11023, 760), (13, 74, 11024, 561), (13, 77, 11025, 535), (13, 80, 11026, 569), (13, 83, 11027, 780), (13, 86, 11028, 767), (13, 89, 11029, 1517), (13, 92, 11030, 1524), (13, 95, 11031, 1540), (13, 98, 11032, 1551), (13, 101, 11033, 1567), (13, 104, 11034, 1575), (13, 107, 11004, 792), (13, 110, 13002, 1103), (13, 115, 13004, 1144), (13, 118, 13001, 413), (13, 121, 13028, 1141), (13, 125, 13029, 1155), (13, 128, 13030, 1158), (13, 131, 13031, 1152), (13, 134, 11002, 800), (13, 137, 11006, 804), (13, 140, 13005, 1069), (13, 151, 13032, 1138), (13, 155, 11007, 1161), (13, 158, 13006, 1168), (13, 161, 11013, 1230), (13, 164, 11011, 1238), (13, 167, 13008, 1243), (13, 169, 13009, 1252), (13, 171, 13007, 1264), (13, 173, 13014, 1274), (13, 175, 13003, 1397), (13, 177, 13015, 420), (13, 180, 13037, 417), (13, 184, 13018, 532), (13, 186, 13017, 558), (13, 188, 13019, 566), (13, 190, 13016, 757), (13, 192, 13021, 764), (13, 194, 13020, 777), (13, 196, 11021, 397), (13, 199, 11019, 393), (13, 202, 13022, 1514), (13, 204, 13023, 1521), (13, 206, 13024, 1537), (13, 209, 13026, 1564), (13, 211, 13027, 1572), (13, 213, 13025, 1548), (13, 215, 13010, 1412), (13, 217, 13011, 1444), (13, 220, 13012, 1490), (13, 222, 13013, 1502), (13, 224, 13039, 1511), (13, 228, 13040, 1560), (13, 232, 13033, 797), (13, 236, 13034, 1135), (13, 240, 13035, 1165), (13, 244, 13036, 1271), (13, 247, 13041, 1409), (13, 251, 11000, 93), (13, 252, 13000, 405), (13, 256, 13042, 789), (13, 259, 13038, 410)]
def ab_nT : List (Nat × Nat × Nat × Nat) := [(11, 20, 4000, 115), (4, 11, 9000, 121)]
def ab_mR (o i : Nat) : Option Nat := (ab_mT.find? (fun q => q.2.1 == i && q.1 == o)).map (fun q => q.2.2.1)
def ab_nR (o i : Nat) : Option Nat := (ab_nT.find? (fun q => q.2.1 == i && q.1 == o)).map (fun q => q.2.2.1)
abbrev ab_Info : Type := MethodName × ByteArray × Nat × Nat × Option FieldType × Nat × Bool × (List Value → Nat) × (List Value → Nat) × List (Nat × Nat × Nat × String)
def i1000 : ab_Info := (yX0_init, cX0_init, 1, 5, none, 4, false, (fun _ => 6), (fun _ => 60), [])
def i1001 : ab_Info := (yX0_markNow, cX0_markNow, 1, 1, (some .int), 0, false, (fun _ => 0), (fun _ => 0), [])
def i1002 : ab_Info := (yX0_markFor, cX0_markFor, 1, 4, (some .int), 1, false, (fun _ => 0), (fun _ => 0), [])
def ab_M1 : List ab_Info := [i1000, i1001, i1002]
def i2000 : ab_Info := (yX1_init, cX1_init, 2, 4, none, 3, false, (fun _ => 1), (fun _ => 3), [])
def i2001 : ab_Info := (yX1_add, cX1_add, 2, 2, none, 1, false, (fun _ => 1), (fun _ => 40), [])
def i2002 : ab_Info := (yX1_testCount, cX1_testCount, 2, 1, (some .int), 0, false, (fun _ => 0), (fun _ => 0), [])
def i2003 : ab_Info := (yX1_test, cX1_test, 2, 2, (some (.object "ProgramSchool$Test")), 1, false, (fun _ => 0), (fun _ => 0), [])
def i2004 : ab_Info := (yX1_pointsFor, cX1_pointsFor, 2, 6, (some .int), 1, false, (fun _ => 0), (fun _ => 0), [])
def ab_M2 : List ab_Info := [i2000, i2001, i2002, i2003, i2004]
def i3000 : ab_Info := (yX2_init, cX2_init, 3, 3, none, 2, false, (fun _ => 2), (fun _ => 1700), [])
def i3001 : ab_Info := (yX2_run, cX2_run, 3, 9, none, 5, false, (fun _ => 0), (fun _ => 0), [])
def i3002 : ab_Info := (yX2_compute, cX2_compute, 3, 5, none, 2, false, (fun _ => 0), (fun _ => 0), [])
def i3003 : ab_Info := (yX2_go, cX2_go, 3, 3, none, 2, false, (fun _ => 0), (fun _ => 0), [])
def i3004 : ab_Info := (yX2_decide, cX2_decide, 3, 4, none, 2, false, (fun _ => 0), (fun _ => 0), [])
def i3005 : ab_Info := (yX2_call, cX2_call, 3, 3, none, 1, false, (fun _ => 0), (fun _ => 0), [])
def ab_M3 : List ab_Info := [i3000, i3001, i3002, i3003, i3004, i3005]
def i4000 : ab_Info := (yX3_init, cX3_init, 4, 1, none, 0, false, (fun _ => 30), (fun _ => 3500), [])
def i4001 : ab_Info := (yX3_begin, cX3_begin, 4, 1, none, 0, false, (fun _ => 0), (fun _ => 0), [])
def i4002 : ab_Info := (yX3_beginPart, cX3_beginPart, 4, 2, (some .int), 1, false, (fun _ => 0), (fun _ => 0), [])
def i4003 : ab_Info := (yX3_endPart, cX3_endPart, 4, 3, none, 2, false, (fun _ => 0), (fun _ => 0), [])
def i4004 : ab_Info := (yX3_partCount, cX3_partCount, 4, 1, (some .int), 0, false, (fun _ => 0), (fun _ => 0), [])
def i4005 : ab_Info := (yX3_addCode, cX3_addCode, 4, 3, (some .int), 2, false, (fun _ => 0), (fun _ => 0), [])
def i4006 : ab_Info := (yX3_codeCount, cX3_codeCount, 4, 1, (some .int), 0, false, (fun _ => 0), (fun _ => 0), [])
def i4007 : ab_Info := (yX3_code, cX3_code, 4, 2, (some .int), 1, false, (fun _ => 0), (fun _ => 0), [])
def i4008 : ab_Info := (yX3_operand, cX3_operand, 4, 2, (some .int), 1, false, (fun _ => 0), (fun _ => 0), [])
def i4009 : ab_Info := (yX3_setOperand, cX3_setOperand, 4, 3, none, 2, false, (fun _ => 0), (fun _ => 0), [])
def i4010 : ab_Info := (yX3_addDef, cX3_addDef, 4, 2, (some .int), 1, false, (fun _ => 0), (fun _ => 0), [])
def i4011 : ab_Info := (yX3_setDef, cX3_setDef, 4, 5, none, 4, false, (fun _ => 0), (fun _ => 0), [])
def i4012 : ab_Info := (yX3_defNamed, cX3_defNamed, 4, 2, (some .int), 1, false, (fun _ => 0), (fun _ => 0), [])
def i4013 : ab_Info := (yX3_parameters, cX3_parameters, 4, 2, (some .int), 1, false, (fun _ => 0), (fun _ => 0), [])
def i4014 : ab_Info := (yX3_block, cX3_block, 4, 2, (some .int), 1, false, (fun _ => 0), (fun _ => 0), [])
def i4015 : ab_Info := (yX3_entry, cX3_entry, 4, 2, (some .int), 1, false, (fun _ => 0), (fun _ => 0), [])
def i4016 : ab_Info := (yX3_partsInCommon, cX3_partsInCommon, 4, 6, (some .int), 1, false, (fun _ => 2), (fun _ => 160), [])
def i4017 : ab_Info := (yX3_freePartLike, cX3_freePartLike, 4, 5, (some .int), 3, false, (fun _ => 0), (fun _ => 0), [])
def i4018 : ab_Info := (yX3_areAlike, cX3_areAlike, 4, 8, (some .boolean), 3, false, (fun _ => 0), (fun _ => 0), [])
def ab_M4 : List ab_Info := [i4000, i4001, i4002, i4003, i4004, i4005, i4006, i4007, i4008, i4009, i4010, i4011, i4012, i4013, i4014, i4015, i4016, i4017, i4018]
def i5000 : ab_Info := (yX4_init, cX4_init, 5, 2, none, 1, false, (fun _ => 10), (fun _ => 500), [])
def i5001 : ab_Info := (yX4_read, cX4_read, 5, 3, none, 1, false, (fun _ => 0), (fun _ => 0), [])
def i5002 : ab_Info := (yX4_nameFault, cX4_nameFault, 5, 2, none, 0, false, (fun _ => 0), (fun _ => 0), [])
def i5003 : ab_Info := (yX4_kind, cX4_kind, 5, 1, (some .int), 0, false, (fun _ => 0), (fun _ => 0), [])
def i5004 : ab_Info := (yX4_names, cX4_names, 5, 1, (some (.object "ProgramSchool$Row")), 0, false, (fun _ => 0), (fun _ => 0), [])
def i5005 : ab_Info := (yX4_refuse, cX4_refuse, 5, 3, none, 2, false, (fun _ => 0), (fun _ => 0), [])
def i5006 : ab_Info := (yX4_expect, cX4_expect, 5, 2, none, 1, false, (fun _ => 0), (fun _ => 0), [])
def i5007 : ab_Info := (yX4_openLevel, cX4_openLevel, 5, 1, none, 0, false, (fun _ => 0), (fun _ => 0), [])
def i5008 : ab_Info := (yX4_statement, cX4_statement, 5, 3, none, 0, false, (fun _ => 0), (fun _ => 0), [])
def i5009 : ab_Info := (yX4_nameStatement, cX4_nameStatement, 5, 2, none, 0, false, (fun _ => 0), (fun _ => 0), [])
def i5010 : ab_Info := (yX4_cellStatement, cX4_cellStatement, 5, 1, none, 0, false, (fun _ => 0), (fun _ => 0), [])
def i5011 : ab_Info := (yX4_ifStatement, cX4_ifStatement, 5, 5, none, 0, false, (fun _ => 0), (fun _ => 0), [])
def i5012 : ab_Info := (yX4_whileStatement, cX4_whileStatement, 5, 4, none, 0, false, (fun _ => 0), (fun _ => 0), [])
def i5013 : ab_Info := (yX4_returnStatement, cX4_returnStatement, 5, 1, none, 0, false, (fun _ => 0), (fun _ => 0), [])
def i5014 : ab_Info := (yX4_defStatement, cX4_defStatement, 5, 4, none, 0, false, (fun _ => 0), (fun _ => 0), [])
def i5015 : ab_Info := (yX4_parameters, cX4_parameters, 5, 2, none, 0, false, (fun _ => 0), (fun _ => 0), [])
def i5016 : ab_Info := (yX4_parameter, cX4_parameter, 5, 1, none, 0, false, (fun _ => 0), (fun _ => 0), [])
def i5017 : ab_Info := (yX4_block, cX4_block, 5, 4, none, 1, false, (fun _ => 0), (fun _ => 0), [])
def i5018 : ab_Info := (yX4_expression, cX4_expression, 5, 6, none, 1, false, (fun _ => 0), (fun _ => 0), [])
def i5019 : ab_Info := (yX4_operand, cX4_operand, 5, 1, none, 0, false, (fun _ => 0), (fun _ => 0), [])
def i5020 : ab_Info := (yX4_markedOperand, cX4_markedOperand, 5, 2, none, 0, false, (fun _ => 0), (fun _ => 0), [])
def i5021 : ab_Info := (yX4_call, cX4_call, 5, 4, none, 0, false, (fun _ => 0), (fun _ => 0), [])
def i5022 : ab_Info := (yX4_variable, cX4_variable, 5, 3, (some .int), 1, false, (fun _ => 0), (fun _ => 0), [])
def i5023 : ab_Info := (yX4_linkCalls, cX4_linkCalls, 5, 4, none, 0, false, (fun _ => 0), (fun _ => 0), [])
def ab_M5 : List ab_Info := [i5000, i5001, i5002, i5003, i5004, i5005, i5006, i5007, i5008, i5009, i5010, i5011, i5012, i5013, i5014, i5015, i5016, i5017, i5018, i5019, i5020, i5021, i5022, i5023]
def i6000 : ab_Info := (yX5_init, cX5_init, 6, 2, none, 1, false, (fun _ => 1), (fun v => match v with | [_, .int x] => x.toNatClampNeg | _ => 0), [])
def i6001 : ab_Info := (yX5_size, cX5_size, 6, 1, (some .int), 0, false, (fun _ => 0), (fun _ => 0), [])
def i6002 : ab_Info := (yX5_get, cX5_get, 6, 2, (some .int), 1, false, (fun _ => 0), (fun _ => 0), [])
def i6003 : ab_Info := (yX5_set, cX5_set, 6, 3, none, 2, false, (fun _ => 0), (fun _ => 0), [])
def i6004 : ab_Info := (yX5_add, cX5_add, 6, 2, none, 1, false, (fun _ => 0), (fun _ => 0), [])
def i6005 : ab_Info := (yX5_last, cX5_last, 6, 1, (some .int), 0, false, (fun _ => 0), (fun _ => 0), [])
def i6006 : ab_Info := (yX5_takeLast, cX5_takeLast, 6, 1, (some .int), 0, false, (fun _ => 0), (fun _ => 0), [])
def i6007 : ab_Info := (yX5_cut, cX5_cut, 6, 2, none, 1, false, (fun _ => 0), (fun _ => 0), [])
def i6008 : ab_Info := (yX5_empty, cX5_empty, 6, 1, none, 0, false, (fun _ => 0), (fun _ => 0), [])
def i6009 : ab_Info := (yX5_fillWithZeros, cX5_fillWithZeros, 6, 2, none, 0, false, (fun _ => 0), (fun _ => 0), [])
def i6010 : ab_Info := (yX5_placeOf, cX5_placeOf, 6, 3, (some .int), 1, false, (fun _ => 0), (fun _ => 0), [])
def ab_M6 : List ab_Info := [i6000, i6001, i6002, i6003, i6004, i6005, i6006, i6007, i6008, i6009, i6010]
def i7000 : ab_Info := (yX6_init, cX6_init, 7, 1, none, 0, false, (fun _ => 8), (fun _ => 160), [])
def i7001 : ab_Info := (yX6_begin, cX6_begin, 7, 4, none, 3, false, (fun _ => 0), (fun _ => 0), [])
def i7002 : ab_Info := (yX6_isGoing, cX6_isGoing, 7, 1, (some .boolean), 0, false, (fun _ => 0), (fun _ => 0), [])
def i7003 : ab_Info := (yX6_end, cX6_end, 7, 1, (some .int), 0, false, (fun _ => 0), (fun _ => 0), [])
def i7004 : ab_Info := (yX6_fuel, cX6_fuel, 7, 1, (some .int), 0, false, (fun _ => 0), (fun _ => 0), [])
def i7005 : ab_Info := (yX6_outputCount, cX6_outputCount, 7, 1, (some .int), 0, false, (fun _ => 0), (fun _ => 0), [])
def i7006 : ab_Info := (yX6_output, cX6_output, 7, 2, (some .int), 1, false, (fun _ => 0), (fun _ => 0), [])
def i7007 : ab_Info := (yX6_cell, cX6_cell, 7, 2, (some .int), 1, false, (fun _ => 0), (fun _ => 0), [])
def i7008 : ab_Info := (yX6_stop, cX6_stop, 7, 2, none, 1, false, (fun _ => 0), (fun _ => 0), [])
def i7009 : ab_Info := (yX6_takeFuel, cX6_takeFuel, 7, 1, (some .boolean), 0, false, (fun _ => 0), (fun _ => 0), [])
def i7010 : ab_Info := (yX6_input, cX6_input, 7, 1, (some .int), 0, false, (fun _ => 0), (fun _ => 0), [])
def i7011 : ab_Info := (yX6_put, cX6_put, 7, 2, none, 1, false, (fun _ => 0), (fun _ => 0), [])
def i7012 : ab_Info := (yX6_setCell, cX6_setCell, 7, 3, none, 2, false, (fun _ => 0), (fun _ => 0), [])
def i7013 : ab_Info := (yX6_variable, cX6_variable, 7, 2, (some .int), 1, false, (fun _ => 0), (fun _ => 0), [])
def i7014 : ab_Info := (yX6_setVariable, cX6_setVariable, 7, 3, none, 2, false, (fun _ => 0), (fun _ => 0), [])
def i7015 : ab_Info := (yX6_enter, cX6_enter, 7, 3, (some .boolean), 1, false, (fun _ => 0), (fun _ => 0), [])
def i7016 : ab_Info := (yX6_leave, cX6_leave, 7, 1, (some .int), 0, false, (fun _ => 0), (fun _ => 0), [])
def i7017 : ab_Info := (yX6_one, cX6_one, 7, 3, (some .int), 2, false, (fun _ => 0), (fun _ => 0), [])
def i7018 : ab_Info := (yX6_two, cX6_two, 7, 4, (some .int), 3, false, (fun _ => 0), (fun _ => 0), [])
def i7019 : ab_Info := (yX6_intOf, cX6_intOf, 7, 3, (some .int), 1, false, (fun _ => 0), (fun _ => 0), [])
def ab_M7 : List ab_Info := [i7000, i7001, i7002, i7003, i7004, i7005, i7006, i7007, i7008, i7009, i7010, i7011, i7012, i7013, i7014, i7015, i7016, i7017, i7018, i7019]
def i8000 : ab_Info := (yX7_init, cX7_init, 8, 7, none, 6, false, (fun _ => 0), (fun _ => 0), [])
def i8001 : ab_Info := (yX7_isPassedBy, cX7_isPassedBy, 8, 2, (some .boolean), 1, false, (fun _ => 0), (fun _ => 0), [])
def ab_M8 : List ab_Info := [i8000, i8001]
def i9000 : ab_Info := (yX8_init, cX8_init, 9, 1, none, 0, false, (fun _ => 10), (fun _ => 1600), [])
def i9001 : ab_Info := (yX8_scan, cX8_scan, 9, 5, none, 1, false, (fun _ => 0), (fun _ => 0), [])
def i9002 : ab_Info := (yX8_last, cX8_last, 9, 1, (some .int), 0, false, (fun _ => 0), (fun _ => 0), [])
def i9003 : ab_Info := (yX8_levelOf, cX8_levelOf, 9, 1, (some .int), 1, true, (fun _ => 0), (fun _ => 0), [])
def i9004 : ab_Info := (yX8_add, cX8_add, 9, 4, none, 3, false, (fun _ => 0), (fun _ => 0), [])
def i9005 : ab_Info := (yX8_scanNumber, cX8_scanNumber, 9, 6, (some .int), 2, false, (fun _ => 0), (fun _ => 0), [])
def i9006 : ab_Info := (yX8_scanWord, cX8_scanWord, 9, 5, (some .int), 2, false, (fun _ => 0), (fun _ => 0), [])
def i9007 : ab_Info := (yX8_keyword, cX8_keyword, 9, 3, (some .int), 3, true, (fun _ => 0), (fun _ => 0), [])
def i9008 : ab_Info := (yX8_isWord, cX8_isWord, 9, 5, (some .boolean), 4, true, (fun _ => 0), (fun _ => 0), [])
def i9009 : ab_Info := (yX8_nameNumber, cX8_nameNumber, 9, 5, (some .int), 3, false, (fun _ => 0), (fun _ => 0), [])
def i9010 : ab_Info := (yX8_areSame, cX8_areSame, 9, 5, (some .boolean), 4, true, (fun _ => 0), (fun _ => 0), [])
def i9011 : ab_Info := (yX8_scanMark, cX8_scanMark, 9, 4, (some .int), 2, false, (fun _ => 0), (fun _ => 0), [])
def i9012 : ab_Info := (yX8_markOfTwo, cX8_markOfTwo, 9, 2, (some .int), 2, true, (fun _ => 0), (fun _ => 0), [])
def i9013 : ab_Info := (yX8_markOfOne, cX8_markOfOne, 9, 1, (some .int), 1, true, (fun _ => 0), (fun _ => 0), [])
def i9014 : ab_Info := (yX8_isDigit, cX8_isDigit, 9, 1, (some .boolean), 1, true, (fun _ => 0), (fun _ => 0), [])
def i9015 : ab_Info := (yX8_isLetter, cX8_isLetter, 9, 1, (some .boolean), 1, true, (fun _ => 0), (fun _ => 0), [])
def ab_M9 : List ab_Info := [i9000, i9001, i9002, i9003, i9004, i9005, i9006, i9007, i9008, i9009, i9010, i9011, i9012, i9013, i9014, i9015]
def i10000 : ab_Info := (yX9_init, cX9_init, 10, 3, none, 2, false, (fun _ => 4), (fun _ => 3400), [])
def i10001 : ab_Info := (yX9_run, cX9_run, 10, 7, none, 5, false, (fun _ => 0), (fun _ => 0), [])
def i10002 : ab_Info := (yX9_statement, cX9_statement, 10, 1, none, 0, false, (fun _ => 0), (fun _ => 0), [])
def i10003 : ab_Info := (yX9_beginStatement, cX9_beginStatement, 10, 1, none, 0, false, (fun _ => 0), (fun _ => 0), [])
def i10004 : ab_Info := (yX9_endBlock, cX9_endBlock, 10, 2, none, 0, false, (fun _ => 0), (fun _ => 0), [])
def i10005 : ab_Info := (yX9_operand, cX9_operand, 10, 1, none, 0, false, (fun _ => 0), (fun _ => 0), [])
def i10006 : ab_Info := (yX9_value, cX9_value, 10, 2, none, 1, false, (fun _ => 0), (fun _ => 0), [])
def i10007 : ab_Info := (yX9_operator, cX9_operator, 10, 3, none, 0, false, (fun _ => 0), (fun _ => 0), [])
def i10008 : ab_Info := (yX9_doWaitingMarks, cX9_doWaitingMarks, 10, 6, none, 1, false, (fun _ => 0), (fun _ => 0), [])
def i10009 : ab_Info := (yX9_decide, cX9_decide, 10, 3, none, 1, false, (fun _ => 0), (fun _ => 0), [])
def i10010 : ab_Info := (yX9_endExpression, cX9_endExpression, 10, 3, none, 1, false, (fun _ => 0), (fun _ => 0), [])
def i10011 : ab_Info := (yX9_endStatement, cX9_endStatement, 10, 3, none, 2, false, (fun _ => 0), (fun _ => 0), [])
def i10012 : ab_Info := (yX9_otherBlock, cX9_otherBlock, 10, 2, (some .int), 0, false, (fun _ => 0), (fun _ => 0), [])
def i10013 : ab_Info := (yX9_call, cX9_call, 10, 3, none, 0, false, (fun _ => 0), (fun _ => 0), [])
def i10014 : ab_Info := (yX9_endCall, cX9_endCall, 10, 1, none, 0, false, (fun _ => 0), (fun _ => 0), [])
def ab_M10 : List ab_Info := [i10000, i10001, i10002, i10003, i10004, i10005, i10006, i10007, i10008, i10009, i10010, i10011, i10012, i10013, i10014]
def i11000 : ab_Info := (yX10_init, cX10_init, 11, 1, none, 0, false, (fun _ => 100), (fun _ => 14000), [])
def i11001 : ab_Info := (yX10_write, cX10_write, 11, 6, (some .int), 1, false, (fun _ => 1), (fun _ => 6), [])
def i11002 : ab_Info := (yX10_wipe, cX10_wipe, 11, 2, (some .int), 0, false, (fun _ => 0), (fun _ => 0), [])
def i11003 : ab_Info := (yX10_erase, cX10_erase, 11, 2, (some .int), 1, false, (fun _ => 1), (fun _ => 6), [])
def i11004 : ab_Info := (yX10_length, cX10_length, 11, 1, (some .int), 0, false, (fun _ => 0), (fun _ => 0), [])
def i11005 : ab_Info := (yX10_signAt, cX10_signAt, 11, 2, (some .char), 1, false, (fun _ => 1), (fun _ => 6), [])
def i11006 : ab_Info := (yX10_fault, cX10_fault, 11, 1, (some .int), 0, false, (fun _ => 40), (fun _ => 3700), [])
def i11007 : ab_Info := (yX10_faultPlace, cX10_faultPlace, 11, 1, (some .int), 0, false, (fun _ => 40), (fun _ => 3700), [])
def i11008 : ab_Info := (yX10_draftParts, cX10_draftParts, 11, 1, (some .int), 0, false, (fun _ => 41), (fun _ => 3706), [])
def i11009 : ab_Info := (yX10_trial, cX10_trial, 11, 4, (some .int), 3, false, (fun _ => 42), (fun _ => 3712), [])
def i11010 : ab_Info := (yX10_trialByTree, cX10_trialByTree, 11, 4, (some .int), 3, false, (fun _ => 42), (fun _ => 3712), [])
def i11011 : ab_Info := (yX10_outputs, cX10_outputs, 11, 1, (some .int), 0, false, (fun _ => 0), (fun _ => 0), [])
def i11012 : ab_Info := (yX10_outputAt, cX10_outputAt, 11, 2, (some .int), 1, false, (fun _ => 1), (fun _ => 6), [])
def i11013 : ab_Info := (yX10_fuelLeft, cX10_fuelLeft, 11, 1, (some .int), 0, false, (fun _ => 0), (fun _ => 0), [])
def i11014 : ab_Info := (yX10_cellAt, cX10_cellAt, 11, 2, (some .int), 1, false, (fun _ => 1), (fun _ => 6), [])
def i11015 : ab_Info := (yX10_addExercise, cX10_addExercise, 11, 3, (some .int), 2, false, (fun _ => 6), (fun _ => 80), [])
def i11016 : ab_Info := (yX10_addTest, cX10_addTest, 11, 12, (some .int), 7, false, (fun _ => 8), (fun _ => 120), [])
def i11017 : ab_Info := (yX10_withdraw, cX10_withdraw, 11, 7, (some .int), 2, false, (fun _ => 4), (fun _ => 40), [])
def i11018 : ab_Info := (yX10_pass, cX10_pass, 11, 2, (some .int), 1, false, (fun _ => 2), (fun _ => 20), [])
def i11019 : ab_Info := (yX10_today, cX10_today, 11, 1, (some .int), 0, false, (fun _ => 0), (fun _ => 0), [])
def i11020 : ab_Info := (yX10_hand, cX10_hand, 11, 6, (some .int), 2, false, (fun _ => 130), (fun _ => 9200), [])
def i11021 : ab_Info := (yX10_answers, cX10_answers, 11, 1, (some .int), 0, false, (fun _ => 0), (fun _ => 0), [])
def i11022 : ab_Info := (yX10_passes, cX10_passes, 11, 4, (some .boolean), 2, false, (fun _ => 2), (fun _ => 12), [])
def i11023 : ab_Info := (yX10_endOf, cX10_endOf, 11, 4, (some .int), 2, false, (fun _ => 2), (fun _ => 12), [])
def i11024 : ab_Info := (yX10_points, cX10_points, 11, 3, (some .int), 1, false, (fun _ => 1), (fun _ => 6), [])
def i11025 : ab_Info := (yX10_mark, cX10_mark, 11, 2, (some .int), 1, false, (fun _ => 1), (fun _ => 6), [])
def i11026 : ab_Info := (yX10_markAnew, cX10_markAnew, 11, 6, (some .int), 1, false, (fun _ => 9), (fun _ => 54), [])
def i11027 : ab_Info := (yX10_best, cX10_best, 11, 7, (some .int), 2, false, (fun _ => 2), (fun _ => 12), [])
def i11028 : ab_Info := (yX10_passed, cX10_passed, 11, 7, (some .int), 2, false, (fun _ => 2), (fun _ => 12), [])
def i11029 : ab_Info := (yX10_parts, cX10_parts, 11, 2, (some .int), 1, false, (fun _ => 1), (fun _ => 6), [])
def i11030 : ab_Info := (yX10_common, cX10_common, 11, 3, (some .int), 2, false, (fun _ => 3), (fun _ => 18), [])
def i11031 : ab_Info := (yX10_likeness, cX10_likeness, 11, 3, (some .int), 2, false, (fun _ => 6), (fun _ => 36), [])
def i11032 : ab_Info := (yX10_accuse, cX10_accuse, 11, 5, (some .int), 2, false, (fun _ => 18), (fun _ => 108), [])
def i11033 : ab_Info := (yX10_clear, cX10_clear, 11, 3, (some .int), 1, false, (fun _ => 2), (fun _ => 12), [])
def i11034 : ab_Info := (yX10_doubt, cX10_doubt, 11, 3, (some .int), 1, false, (fun _ => 360), (fun _ => 2200), [])
def i11035 : ab_Info := (yX10_byteOf, cX10_byteOf, 11, 3, (some .int), 2, true, (fun _ => 0), (fun _ => 0), [])
def i11036 : ab_Info := (yX10_requireTrialFuel, cX10_requireTrialFuel, 11, 1, none, 1, true, (fun _ => 1), (fun _ => 6), [])
def i11037 : ab_Info := (yX10_requirePupil, cX10_requirePupil, 11, 1, none, 1, true, (fun _ => 1), (fun _ => 6), [])
def i11038 : ab_Info := (yX10_requireAnswer, cX10_requireAnswer, 11, 2, none, 1, false, (fun _ => 1), (fun _ => 6), [])
def i11039 : ab_Info := (yX10_answerAt, cX10_answerAt, 11, 2, (some (.object "ProgramSchool$Answer")), 1, false, (fun _ => 1), (fun _ => 6), [])
def i11040 : ab_Info := (yX10_exerciseAt, cX10_exerciseAt, 11, 2, (some (.object "ProgramSchool$Exercise")), 1, false, (fun _ => 1), (fun _ => 6), [])
def i11041 : ab_Info := (yX10_testAt, cX10_testAt, 11, 3, (some (.object "ProgramSchool$Test")), 2, true, (fun _ => 1), (fun _ => 6), [])
def i11042 : ab_Info := (yX10_readDraft, cX10_readDraft, 11, 1, none, 0, false, (fun _ => 40), (fun _ => 3700), [])
def i11043 : ab_Info := (yX10_requireNoFault, cX10_requireNoFault, 11, 1, none, 0, false, (fun _ => 1), (fun _ => 6), [])
def i11044 : ab_Info := (yX10_test, cX10_test, 11, 3, none, 2, false, (fun _ => 0), (fun _ => 0), [])
def i11045 : ab_Info := (yX10_noteMarks, cX10_noteMarks, 11, 2, none, 0, false, (fun _ => 0), (fun _ => 0), [])
def i11046 : ab_Info := (yX10_commonOf, cX10_commonOf, 11, 3, (some .int), 2, false, (fun _ => 1), (fun _ => 6), [])
def i11047 : ab_Info := (yX10_likenessOf, cX10_likenessOf, 11, 4, (some .int), 2, false, (fun _ => 4), (fun _ => 24), [])
def i11048 : ab_Info := (yX10_canAccuse, cX10_canAccuse, 11, 5, (some .boolean), 2, false, (fun _ => 12), (fun _ => 72), [])
def ab_M11 : List ab_Info := [i11000, i11001, i11002, i11003, i11004, i11005, i11006, i11007, i11008, i11009, i11010, i11011, i11012, i11013, i11014, i11015, i11016, i11017, i11018, i11019, i11020, i11021, i11022, i11023, i11024, i11025, i11026, i11027, i11028, i11029, i11030, i11031, i11032, i11033, i11034, i11035, i11036, i11037, i11038, i11039, i11040, i11041, i11042, i11043, i11044, i11045, i11046, i11047, i11048]
def ab_M12 : List ab_Info := []
def i13000 : ab_Info := (yL_at, cL_at, 13, 2, (some .int), 2, true, (fun _ => 0), (fun _ => 0), [])
def i13001 : ab_Info := (yL_low, cL_low, 13, 2, (some .int), 2, true, (fun _ => 0), (fun _ => 0), [])
def i13002 : ab_Info := (yL_write, cL_write, 13, 4, (some .int), 2, true, (fun _ => 1), (fun _ => 6), [(0, 5, 6, "java/lang/IllegalArgumentException")])
def i13003 : ab_Info := (yL_erase, cL_erase, 13, 3, (some .int), 2, true, (fun _ => 1), (fun _ => 6), [(0, 5, 6, "java/lang/IllegalArgumentException")])
def i13004 : ab_Info := (yL_signAt, cL_signAt, 13, 3, (some .int), 2, true, (fun _ => 1), (fun _ => 6), [(0, 5, 6, "java/lang/IndexOutOfBoundsException")])
def i13005 : ab_Info := (yL_draftParts, cL_draftParts, 13, 2, (some .int), 1, true, (fun _ => 41), (fun _ => 3706), [(0, 4, 5, "java/lang/IllegalStateException")])
def i13006 : ab_Info := (yL_trial, cL_trial, 13, 5, (some .int), 4, true, (fun _ => 42), (fun _ => 3712), [(0, 7, 8, "java/lang/IllegalArgumentException"), (0, 7, 13, "java/lang/IllegalStateException")])
def i13007 : ab_Info := (yL_trialByTree, cL_trialByTree, 13, 5, (some .int), 4, true, (fun _ => 42), (fun _ => 3712), [(0, 7, 8, "java/lang/IllegalArgumentException"), (0, 7, 13, "java/lang/IllegalStateException")])
def i13008 : ab_Info := (yL_outputAt, cL_outputAt, 13, 3, (some .int), 2, true, (fun _ => 1), (fun _ => 6), [(0, 5, 6, "java/lang/IndexOutOfBoundsException")])
def i13009 : ab_Info := (yL_cellAt, cL_cellAt, 13, 3, (some .int), 2, true, (fun _ => 1), (fun _ => 6), [(0, 5, 6, "java/lang/IndexOutOfBoundsException")])
def i13010 : ab_Info := (yL_addExercise, cL_addExercise, 13, 4, (some .int), 3, true, (fun _ => 6), (fun _ => 80), [(0, 6, 7, "java/lang/IllegalArgumentException"), (0, 6, 11, "java/lang/IllegalStateException")])
def i13011 : ab_Info := (yL_addTest, cL_addTest, 13, 9, (some .int), 8, true, (fun _ => 8), (fun _ => 120), [(0, 15, 16, "java/lang/IndexOutOfBoundsException"), (0, 15, 21, "java/lang/IllegalArgumentException"), (0, 15, 26, "java/lang/IllegalStateException")])
def i13012 : ab_Info := (yL_withdraw, cL_withdraw, 13, 4, (some .int), 3, true, (fun _ => 4), (fun _ => 40), [(0, 6, 7, "java/lang/IndexOutOfBoundsException"), (0, 6, 11, "java/lang/IllegalStateException")])
def i13013 : ab_Info := (yL_pass, cL_pass, 13, 3, (some .int), 2, true, (fun _ => 2), (fun _ => 20), [(0, 5, 6, "java/lang/IllegalArgumentException"), (0, 5, 10, "java/lang/IllegalStateException")])
def i13014 : ab_Info := (yL_hand, cL_hand, 13, 4, (some .int), 3, true, (fun _ => 130), (fun _ => 9200), [(0, 6, 7, "java/lang/IndexOutOfBoundsException"), (0, 6, 11, "java/lang/IllegalStateException")])
def i13015 : ab_Info := (yL_passes, cL_passes, 13, 4, (some .int), 3, true, (fun _ => 2), (fun _ => 12), [(0, 14, 15, "java/lang/IndexOutOfBoundsException")])
def i13016 : ab_Info := (yL_endOf, cL_endOf, 13, 4, (some .int), 3, true, (fun _ => 2), (fun _ => 12), [(0, 6, 7, "java/lang/IndexOutOfBoundsException")])
def i13017 : ab_Info := (yL_points, cL_points, 13, 3, (some .int), 2, true, (fun _ => 1), (fun _ => 6), [(0, 5, 6, "java/lang/IndexOutOfBoundsException")])
def i13018 : ab_Info := (yL_mark, cL_mark, 13, 3, (some .int), 2, true, (fun _ => 1), (fun _ => 6), [(0, 5, 6, "java/lang/IndexOutOfBoundsException")])
def i13019 : ab_Info := (yL_markAnew, cL_markAnew, 13, 3, (some .int), 2, true, (fun _ => 9), (fun _ => 54), [(0, 5, 6, "java/lang/IndexOutOfBoundsException")])
def i13020 : ab_Info := (yL_best, cL_best, 13, 4, (some .int), 3, true, (fun _ => 2), (fun _ => 12), [(0, 6, 7, "java/lang/IndexOutOfBoundsException")])
def i13021 : ab_Info := (yL_passed, cL_passed, 13, 4, (some .int), 3, true, (fun _ => 2), (fun _ => 12), [(0, 6, 7, "java/lang/IndexOutOfBoundsException")])
def i13022 : ab_Info := (yL_parts, cL_parts, 13, 3, (some .int), 2, true, (fun _ => 1), (fun _ => 6), [(0, 5, 6, "java/lang/IndexOutOfBoundsException")])
def i13023 : ab_Info := (yL_common, cL_common, 13, 4, (some .int), 3, true, (fun _ => 3), (fun _ => 18), [(0, 6, 7, "java/lang/IndexOutOfBoundsException")])
def i13024 : ab_Info := (yL_likeness, cL_likeness, 13, 4, (some .int), 3, true, (fun _ => 6), (fun _ => 36), [(0, 6, 7, "java/lang/IndexOutOfBoundsException")])
def i13025 : ab_Info := (yL_accuse, cL_accuse, 13, 4, (some .int), 3, true, (fun _ => 18), (fun _ => 108), [(0, 6, 7, "java/lang/IndexOutOfBoundsException"), (0, 6, 11, "java/lang/IllegalStateException")])
def i13026 : ab_Info := (yL_clear, cL_clear, 13, 3, (some .int), 2, true, (fun _ => 2), (fun _ => 12), [(0, 5, 6, "java/lang/IndexOutOfBoundsException"), (0, 5, 10, "java/lang/IllegalStateException")])
def i13027 : ab_Info := (yL_doubt, cL_doubt, 13, 3, (some .int), 2, true, (fun _ => 360), (fun _ => 2200), [(0, 5, 6, "java/lang/IndexOutOfBoundsException")])
def i13028 : ab_Info := (yL_sign, cL_sign, 13, 3, (some .boolean), 2, true, (fun _ => 2), (fun _ => 12), [])
def i13029 : ab_Info := (yL_operand, cL_operand, 13, 4, (some .boolean), 2, true, (fun _ => 8), (fun _ => 48), [])
def i13030 : ab_Info := (yL_marks, cL_marks, 13, 5, (some .boolean), 2, true, (fun _ => 4), (fun _ => 24), [])
def i13031 : ab_Info := (yL_value, cL_value, 13, 5, (some .boolean), 2, true, (fun _ => 32), (fun _ => 192), [])
def i13032 : ab_Info := (yL_statement, cL_statement, 13, 5, (some .int), 3, true, (fun _ => 96), (fun _ => 576), [])
def i13033 : ab_Info := (yL_begins, cL_begins, 13, 4, (some .boolean), 3, true, (fun _ => 180), (fun _ => 15000), [])
def i13034 : ab_Info := (yL_goesOn, cL_goesOn, 13, 7, (some .boolean), 4, true, (fun _ => 460), (fun _ => 14000), [])
def i13035 : ab_Info := (yL_tries, cL_tries, 13, 13, (some .boolean), 4, true, (fun _ => 460), (fun _ => 20000), [])
def i13036 : ab_Info := (yL_spoils, cL_spoils, 13, 11, (some .boolean), 4, true, (fun _ => 620), (fun _ => 44000), [])
def i13037 : ab_Info := (yL_markOf, cL_markOf, 13, 12, (some .int), 6, true, (fun _ => 18), (fun _ => 108), [])
def i13038 : ab_Info := (yL_isMarked, cL_isMarked, 13, 13, (some .boolean), 6, true, (fun _ => 3000), (fun _ => 18000), [])
def i13039 : ab_Info := (yL_hands, cL_hands, 13, 16, (some .boolean), 7, true, (fun _ => 700), (fun _ => 48500), [])
def i13040 : ab_Info := (yL_accuses, cL_accuses, 13, 15, (some .boolean), 6, true, (fun _ => 520), (fun _ => 3200), [])
def i13041 : ab_Info := (yL_schools, cL_schools, 13, 18, (some .boolean), 9, true, (fun _ => 1300), (fun _ => 48600), [])
def i13042 : ab_Info := (yL_acts, cL_acts, 13, 10, (some .boolean), 9, true, (fun _ => 1310), (fun _ => 48700), [])
def ab_M13 : List ab_Info := [i13000, i13001, i13002, i13003, i13004, i13005, i13006, i13007, i13008, i13009, i13010, i13011, i13012, i13013, i13014, i13015, i13016, i13017, i13018, i13019, i13020, i13021, i13022, i13023, i13024, i13025, i13026, i13027, i13028, i13029, i13030, i13031, i13032, i13033, i13034, i13035, i13036, i13037, i13038, i13039, i13040, i13041, i13042]
def ab_ML : List (List ab_Info) := [[], ab_M1, ab_M2, ab_M3, ab_M4, ab_M5, ab_M6, ab_M7, ab_M8, ab_M9, ab_M10, ab_M11, ab_M12, ab_M13]
def ab_M (y : Nat) : Option ab_Info := ((ab_ML[y / 1000]?).getD [])[y % 1000]?
def ab_cT : List (Nat × Nat × Nat × Nat) := [(1, 9, 6, 1287), (2, 7, 0, 1426), (2, 38, 8, 524), (3, 9, 6, 279), (4, 9, 9, 119), (4, 18, 6, 149), (5, 9, 6, 197), (7, 9, 6, 239), (9, 9, 6, 125), (10, 9, 6, 300), (11, 9, 6, 99), (11, 18, 4, 113), (11, 25, 5, 191), (11, 34, 7, 233), (11, 44, 3, 273), (11, 53, 10, 294), (11, 60, 0, 324), (11, 178, 2, 776), (11, 197, 8, 1453), (11, 208, 1, 514), (13, 11, 11, 91)]
def ab_cR (o i : Nat) : Option Nat := (ab_cT.find? (fun q => q.2.1 == i && q.1 == o)).map (fun q => q.2.2.1)
def ab_eT : List (Nat × Nat × Nat × String) := [(11, 106, 110, "java/lang/IndexOutOfBoundsException"), (11, 173, 177, "java/lang/IllegalStateException"), (11, 80, 84, "java/lang/IllegalArgumentException")]
def ab_eR (o i : Nat) : Option (Nat × String) := (ab_eT.find? (fun q => q.2.1 == i && q.1 == o)).map (fun q => (q.2.2.1, q.2.2.2))
def ab_kT : List (Nat × Nat × Int32 × Nat) := [(13, 7, 1139406805, 408), (13, 8, 1555146979, 409), (13, 9, 2147483647, 416), (13, 29, -1000001, 530), (13, 179, 65535, 531), (10, 54, 1000000, 591), (13, 36, -1000003, 1101), (13, 18, -1000002, 1131), (3, 41, 1000000, 1185), (13, 208, 65536, 1563)]
def ab_kR (o i : Nat) : Option Int32 := (ab_kT.find? (fun q => q.2.1 == i && q.1 == o)).map (fun q => q.2.2.1)
def ab_jT : List (Nat × Nat × Int64 × Nat) := [(7, 88, -2147483648, 705), (7, 90, 2147483647, 706), (9, 66, 10, 826), (9, 68, 48, 827), (9, 70, 2147483648, 828), (9, 78, 2147483647, 832), (13, 143, 2988182771855680868, 1102), (11, 319, 255, 1114), (13, 145, 9023938359155060603, 1132), (13, 147, 2911149965011478907, 1133), (13, 149, 35322065136463224, 1134)]
def ab_jR (o i : Nat) : Option Int64 := (ab_jT.find? (fun q => q.2.1 == i && q.1 == o)).map (fun q => q.2.2.1)
def ab_sT : List (Nat × Nat × Nat × String) := [(9, 87, 0, "if"), (9, 93, 1, "else"), (9, 95, 2, "while"), (9, 97, 3, "out"), (9, 99, 4, "in"), (9, 101, 5, "def"), (9, 103, 6, "return")]
def ab_sR (o i : Nat) : Option Nat := (ab_sT.find? (fun q => q.2.1 == i && q.1 == o)).map (fun q => q.2.2.1)
def ab_xT : List (Nat × Nat × String) := [(11, 82, "a byte is no sign"), (11, 101, "no such count of signs"), (11, 108, "no such place"), (11, 154, "no such output"), (11, 162, "no such cell"), (11, 170, "fuel or due is out of range"), (11, 175, "there is no room for an exercise"), (11, 190, "weight or count is out of range"), (11, 195, "there is no room for a test"), (11, 228, "the test was withdrawn"), (11, 236, "days are out of range"), (11, 238, "there is no such day"), (11, 243, "there is no room for an answer"), (11, 315, "the answer cannot be accused"), (11, 317, "the answer is not struck"), (11, 321, "fuel is out of range"), (11, 323, "no such pupil"), (11, 325, "no such answer"), (11, 327, "no such exercise"), (11, 332, "no such test"), (11, 341, "the draft has a fault")]
def ab_xR (o i : Nat) : Option String := (ab_xT.find? (fun q => q.2.1 == i && q.1 == o)).map (fun q => q.2.2)
theorem ab_mT_ok : ab_mT.all (fun q => decide (q.2.2.1 < 10) || (match ab_M q.2.2.1 with | some I => decide (lw_tbl[q.2.2.2]? = some (.methodLink (ab_own q.1) q.2.1 I.1)) | none => false)) = true := by decide +kernel
theorem ab_cT_ok : ab_cT.all (fun q => decide (lw_tbl[q.2.2.2]? = some (.classLink (ab_own q.1) q.2.1 (ab_own q.2.2.1)))) = true := by decide +kernel
theorem ab_kT_ok : ab_kT.all (fun q => decide (lw_tbl[q.2.2.2]? = some (.constant (ab_own q.1) q.2.1 q.2.2.1))) = true := by decide +kernel
theorem ab_jT_ok : ab_jT.all (fun q => decide (lw_tbl[q.2.2.2]? = some (.constantLong (ab_own q.1) q.2.1 q.2.2.1))) = true := by decide +kernel
