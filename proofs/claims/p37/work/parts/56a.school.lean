noncomputable section
def h_11000 (me : Nat) (T : Tx) : Option Tx :=
  bS (tNew T 107) fun T1 =>
  gd (tK T1 (tZ T) = 107) <|
  bS (tRow T1 (tZ T) (Int32.toNatClampNeg 300)) fun T2 =>
  gd (tK T2 me = 12) <|
  bS (tsW T2 me 0 (some (tZ T))) fun T3 =>
  bS (tNew T3 5) fun T4 =>
  gd (tK T4 (tZ T3) = 5) <|
  bOv (h_4000 (tZ T3) T4) fun T5 =>
  gd (tK T5 me = 12) <|
  bS (tsW T5 me 1 (some (tZ T3))) fun T6 =>
  bS (tNew T6 6) fun T7 =>
  gd (tK T7 me = 12) <|
  bP (tW T7 me 1) fun r8 =>
  gd (tK T7 (tZ T6) = 6) <|
  bOv (h_5000 (tZ T6) r8 T7) fun T9 =>
  gd (tK T9 me = 12) <|
  bS (tsW T9 me 4 (some (tZ T6))) fun T10 =>
  bS (tNew T10 8) fun T11 =>
  gd (tK T11 (tZ T10) = 8) <|
  bOv (h_7000 (tZ T10) T11) fun T12 =>
  gd (tK T12 me = 12) <|
  bS (tsW T12 me 5 (some (tZ T10))) fun T13 =>
  bS (tNew T13 8) fun T14 =>
  gd (tK T14 (tZ T13) = 8) <|
  bOv (h_7000 (tZ T13) T14) fun T15 =>
  gd (tK T15 me = 12) <|
  bS (tsW T15 me 6 (some (tZ T13))) fun T16 =>
  bS (tNew T16 4) fun T17 =>
  gd (tK T17 me = 12) <|
  bP (tW T17 me 1) fun r18 =>
  gd (tK T17 me = 12) <|
  bP (tW T17 me 6) fun r19 =>
  gd (tK T17 (tZ T16) = 4) <|
  bOv (h_3000 (tZ T16) r18 r19 T17) fun T20 =>
  gd (tK T20 me = 12) <|
  bS (tsW T20 me 7 (some (tZ T16))) fun T21 =>
  bS (tNew T21 11) fun T22 =>
  gd (tK T22 me = 12) <|
  bP (tW T22 me 1) fun r23 =>
  gd (tK T22 me = 12) <|
  bP (tW T22 me 6) fun r24 =>
  gd (tK T22 (tZ T21) = 11) <|
  bOv (h_10000 (tZ T21) r23 r24 T22) fun T25 =>
  gd (tK T25 me = 12) <|
  bS (tsW T25 me 8 (some (tZ T21))) fun T26 =>
  bS (tNew T26 101) fun T27 =>
  gd (tK T27 (tZ T26) = 101) <|
  bS (tLst T27 (tZ T26)) fun T28 =>
  gd (tK T28 me = 12) <|
  bS (tsW T28 me 9 (some (tZ T26))) fun T29 =>
  bS (tNew T29 101) fun T30 =>
  gd (tK T30 (tZ T29) = 101) <|
  bS (tLst T30 (tZ T29)) fun T31 =>
  gd (tK T31 me = 12) <|
  bS (tsW T31 me 10 (some (tZ T29))) fun T32 =>
  bS (tNew T32 107) fun T33 =>
  gd (tK T33 (tZ T32) = 107) <|
  bS (tRow T33 (tZ T32) (Int32.toNatClampNeg 30)) fun T34 =>
  gd (tK T34 me = 12) <|
  bS (tsW T34 me 11 (some (tZ T32))) fun T35 =>
  bS (tNew T35 107) fun T36 =>
  gd (tK T36 (tZ T35) = 107) <|
  bS (tRow T36 (tZ T35) (Int32.toNatClampNeg 8)) fun T37 =>
  gd (tK T37 me = 12) <|
  bS (tsW T37 me 12 (some (tZ T35))) fun T38 =>
  some T38
theorem sh_11000 {F : Nat → Prop} {d : Nat} {G : ab_G} {T : Tx} {P : ab_Pq} {X : ab_Xq} (h2 : Rep2 F G T) {me : Nat} {o : Tx} (ho : h_11000 me T = some o) (h : ∀ G1, Rep2 F G1 o → SameF F G G1 → P G1 none) : ab_Gam (d + 42) 11000 [.ref me] G P X := by
  have hF : SameF F G G := SameF_rfl
  unfold h_11000 at ho
  refine ab_enter (I := i11000) rfl (Nat.le_of_ble_eq_true rfl) (fun R hR => ?_)
  change R _ _ _ _ 100 14000
  refine us_aload_n hR dX10_init_0 rfl ?_
  refine us_objInit hR dX10_init_1 (by decide +kernel) (Nat.le_of_ble_eq_true rfl) ?_
  refine us_aload_n hR dX10_init_4 rfl ?_
  refine uh_new (ci := 6) 107 h2 (by decide) hR dX10_init_5 (by decide +kernel) (by decide) (Nat.le_of_ble_eq_true rfl) (Nat.le_of_ble_eq_true rfl) (fun G1 T1 hs1 h21 hF1 => ?_)
  rw [← hs1, bS_eq] at ho
  have hF1 := hF.tr hF1
  change R _ _ _ _ 99 13998
  refine us_dup hR dX10_init_8 rfl ?_
  refine us_sipushC hR dX10_init_9 (c := 300) (by decide) ?_
  have hg := gd_c ho
  rw [gd_e hg] at ho
  refine us_callI hR dX10_init_12 (y := 6000) (by decide +kernel) (by decide) (J := i6000) rfl rfl rfl rfl (H_raw7 h21 hg) rfl (Nat.le_of_ble_eq_true rfl) (Nat.le_of_ble_eq_true rfl) (Nat.le_of_ble_eq_true rfl) ?_
  refine hr_init h21 hg (by decide) (fun G2 T2 hs2 h22 hF2 => ?_)
  rw [← hs2, bS_eq] at ho
  have hF2 := hF1.tr hF2
  change R _ _ _ _ 98 13698
  have hg := gd_c ho
  rw [gd_e hg] at ho
  refine uh_putR h22 hg (by decide) hR dX10_init_15 fR_11_14 (Or.inr ⟨rfl, rfl⟩) rfl (fun G3 T3 hs3 h23 hF3 => ?_)
  rw [← hs3, bS_eq] at ho
  have hF3 := hF2.tr hF3
  refine us_aload_n hR dX10_init_18 rfl ?_
  refine uh_new (ci := 4) 5 h23 (by decide) hR dX10_init_19 (by decide +kernel) (by decide) (Nat.le_of_ble_eq_true rfl) (Nat.le_of_ble_eq_true rfl) (fun G4 T4 hs4 h24 hF4 => ?_)
  rw [← hs4, bS_eq] at ho
  have hF4 := hF3.tr hF4
  change R _ _ _ _ 97 13687
  refine us_dup hR dX10_init_22 rfl ?_
  have hg := gd_c ho
  rw [gd_e hg] at ho
  refine us_callN hR dX10_init_23 (y := 4000) (by decide +kernel) (by decide +kernel) (J := i4000) rfl rfl rfl rfl (H_kind1 h24 hg (by decide)) rfl (Nat.le_of_ble_eq_true rfl) (Nat.le_of_ble_eq_true rfl) (Nat.le_of_ble_eq_true rfl) ?_
  obtain ⟨T5, hs5⟩ := bOv_ex ho
  replace ho := bOv_go ho hs5
  refine sh_4000 h24 hs5 (fun G5 h25 hF5 => ?_)
  have hF5 := hF4.tr hF5
  change R _ _ _ _ 67 10187
  have hg := gd_c ho
  rw [gd_e hg] at ho
  refine uh_putR h25 hg (by decide) hR dX10_init_26 fR_11_21 (Or.inl rfl) rfl (fun G6 T6 hs6 h26 hF6 => ?_)
  rw [← hs6, bS_eq] at ho
  have hF6 := hF5.tr hF6
  refine us_aload_n hR dX10_init_29 rfl ?_
  refine uh_new (ci := 5) 6 h26 (by decide) hR dX10_init_30 (by decide +kernel) (by decide) (Nat.le_of_ble_eq_true rfl) (Nat.le_of_ble_eq_true rfl) (fun G7 T7 hs7 h27 hF7 => ?_)
  rw [← hs7, bS_eq] at ho
  have hF7 := hF6.tr hF7
  change R _ _ _ _ 66 10176
  refine us_dup hR dX10_init_33 rfl ?_
  refine us_aload_n hR dX10_init_34 rfl ?_
  have hg := gd_c ho
  rw [gd_e hg] at ho
  obtain ⟨r8, hr8⟩ := bP_ex ho
  replace ho := bP_go ho hr8
  refine uh_getR h27 hg (by decide) hr8 hR dX10_init_35 fR_11_21 rfl ?_
  have hg := gd_c ho
  rw [gd_e hg] at ho
  refine us_callI hR dX10_init_38 (y := 5000) (by decide +kernel) (by decide) (J := i5000) rfl rfl rfl rfl (H_kind1 h27 hg (by decide)) rfl (Nat.le_of_ble_eq_true rfl) (Nat.le_of_ble_eq_true rfl) (Nat.le_of_ble_eq_true rfl) ?_
  obtain ⟨T9, hs9⟩ := bOv_ex ho
  replace ho := bOv_go ho hs9
  refine sh_5000 h27 hs9 (fun G9 h29 hF9 => ?_)
  have hF9 := hF7.tr hF9
  change R _ _ _ _ 56 9676
  have hg := gd_c ho
  rw [gd_e hg] at ho
  refine uh_putR h29 hg (by decide) hR dX10_init_41 fR_11_30 (Or.inr ⟨rfl, rfl⟩) rfl (fun G10 T10 hs10 h210 hF10 => ?_)
  rw [← hs10, bS_eq] at ho
  have hF10 := hF9.tr hF10
  refine us_aload_n hR dX10_init_44 rfl ?_
  refine uh_new (ci := 7) 8 h210 (by decide) hR dX10_init_45 (by decide +kernel) (by decide) (Nat.le_of_ble_eq_true rfl) (Nat.le_of_ble_eq_true rfl) (fun G11 T11 hs11 h211 hF11 => ?_)
  rw [← hs11, bS_eq] at ho
  have hF11 := hF10.tr hF11
  change R _ _ _ _ 55 9667
  refine us_dup hR dX10_init_48 rfl ?_
  have hg := gd_c ho
  rw [gd_e hg] at ho
  refine us_callI hR dX10_init_49 (y := 7000) (by decide +kernel) (by decide) (J := i7000) rfl rfl rfl rfl (H_kind1 h211 hg (by decide)) rfl (Nat.le_of_ble_eq_true rfl) (Nat.le_of_ble_eq_true rfl) (Nat.le_of_ble_eq_true rfl) ?_
  obtain ⟨T12, hs12⟩ := bOv_ex ho
  replace ho := bOv_go ho hs12
  refine sh_7000 h211 hs12 (fun G12 h212 hF12 => ?_)
  have hF12 := hF11.tr hF12
  change R _ _ _ _ 47 9507
  have hg := gd_c ho
  rw [gd_e hg] at ho
  refine uh_putR h212 hg (by decide) hR dX10_init_52 fR_11_37 (Or.inr ⟨rfl, rfl⟩) rfl (fun G13 T13 hs13 h213 hF13 => ?_)
  rw [← hs13, bS_eq] at ho
  have hF13 := hF12.tr hF13
  refine us_aload_n hR dX10_init_55 rfl ?_
  refine uh_new (ci := 7) 8 h213 (by decide) hR dX10_init_56 (by decide +kernel) (by decide) (Nat.le_of_ble_eq_true rfl) (Nat.le_of_ble_eq_true rfl) (fun G14 T14 hs14 h214 hF14 => ?_)
  rw [← hs14, bS_eq] at ho
  have hF14 := hF13.tr hF14
  change R _ _ _ _ 46 9498
  refine us_dup hR dX10_init_59 rfl ?_
  have hg := gd_c ho
  rw [gd_e hg] at ho
  refine us_callI hR dX10_init_60 (y := 7000) (by decide +kernel) (by decide) (J := i7000) rfl rfl rfl rfl (H_kind1 h214 hg (by decide)) rfl (Nat.le_of_ble_eq_true rfl) (Nat.le_of_ble_eq_true rfl) (Nat.le_of_ble_eq_true rfl) ?_
  obtain ⟨T15, hs15⟩ := bOv_ex ho
  replace ho := bOv_go ho hs15
  refine sh_7000 h214 hs15 (fun G15 h215 hF15 => ?_)
  have hF15 := hF14.tr hF15
  change R _ _ _ _ 38 9338
  have hg := gd_c ho
  rw [gd_e hg] at ho
  refine uh_putR h215 hg (by decide) hR dX10_init_63 fR_11_41 (Or.inr ⟨rfl, rfl⟩) rfl (fun G16 T16 hs16 h216 hF16 => ?_)
  rw [← hs16, bS_eq] at ho
  have hF16 := hF15.tr hF16
  refine us_aload_n hR dX10_init_66 rfl ?_
  refine uh_new (ci := 3) 4 h216 (by decide) hR dX10_init_67 (by decide +kernel) (by decide) (Nat.le_of_ble_eq_true rfl) (Nat.le_of_ble_eq_true rfl) (fun G17 T17 hs17 h217 hF17 => ?_)
  rw [← hs17, bS_eq] at ho
  have hF17 := hF16.tr hF17
  change R _ _ _ _ 37 9334
  refine us_dup hR dX10_init_70 rfl ?_
  refine us_aload_n hR dX10_init_71 rfl ?_
  have hg := gd_c ho
  rw [gd_e hg] at ho
  obtain ⟨r18, hr18⟩ := bP_ex ho
  replace ho := bP_go ho hr18
  refine uh_getR h217 hg (by decide) hr18 hR dX10_init_72 fR_11_21 rfl ?_
  refine us_aload_n hR dX10_init_75 rfl ?_
  have hg := gd_c ho
  rw [gd_e hg] at ho
  obtain ⟨r19, hr19⟩ := bP_ex ho
  replace ho := bP_go ho hr19
  refine uh_getR h217 hg (by decide) hr19 hR dX10_init_76 fR_11_41 rfl ?_
  have hg := gd_c ho
  rw [gd_e hg] at ho
  refine us_callI hR dX10_init_79 (y := 3000) (by decide +kernel) (by decide) (J := i3000) rfl rfl rfl rfl (H_kind1 h217 hg (by decide)) rfl (Nat.le_of_ble_eq_true rfl) (Nat.le_of_ble_eq_true rfl) (Nat.le_of_ble_eq_true rfl) ?_
  obtain ⟨T20, hs20⟩ := bOv_ex ho
  replace ho := bOv_go ho hs20
  refine sh_3000 h217 hs20 (fun G20 h220 hF20 => ?_)
  have hF20 := hF17.tr hF20
  change R _ _ _ _ 35 7634
  have hg := gd_c ho
  rw [gd_e hg] at ho
  refine uh_putR h220 hg (by decide) hR dX10_init_82 fR_11_49 (Or.inr ⟨rfl, rfl⟩) rfl (fun G21 T21 hs21 h221 hF21 => ?_)
  rw [← hs21, bS_eq] at ho
  have hF21 := hF20.tr hF21
  refine us_aload_n hR dX10_init_85 rfl ?_
  refine uh_new (ci := 10) 11 h221 (by decide) hR dX10_init_86 (by decide +kernel) (by decide) (Nat.le_of_ble_eq_true rfl) (Nat.le_of_ble_eq_true rfl) (fun G22 T22 hs22 h222 hF22 => ?_)
  rw [← hs22, bS_eq] at ho
  have hF22 := hF21.tr hF22
  change R _ _ _ _ 34 7627
  refine us_dup hR dX10_init_89 rfl ?_
  refine us_aload_n hR dX10_init_90 rfl ?_
  have hg := gd_c ho
  rw [gd_e hg] at ho
  obtain ⟨r23, hr23⟩ := bP_ex ho
  replace ho := bP_go ho hr23
  refine uh_getR h222 hg (by decide) hr23 hR dX10_init_91 fR_11_21 rfl ?_
  refine us_aload_n hR dX10_init_94 rfl ?_
  have hg := gd_c ho
  rw [gd_e hg] at ho
  obtain ⟨r24, hr24⟩ := bP_ex ho
  replace ho := bP_go ho hr24
  refine uh_getR h222 hg (by decide) hr24 hR dX10_init_95 fR_11_41 rfl ?_
  have hg := gd_c ho
  rw [gd_e hg] at ho
  refine us_callI hR dX10_init_98 (y := 10000) (by decide +kernel) (by decide) (J := i10000) rfl rfl rfl rfl (H_kind1 h222 hg (by decide)) rfl (Nat.le_of_ble_eq_true rfl) (Nat.le_of_ble_eq_true rfl) (Nat.le_of_ble_eq_true rfl) ?_
  obtain ⟨T25, hs25⟩ := bOv_ex ho
  replace ho := bOv_go ho hs25
  refine sh_10000 h222 hs25 (fun G25 h225 hF25 => ?_)
  have hF25 := hF22.tr hF25
  change R _ _ _ _ 30 4227
  have hg := gd_c ho
  rw [gd_e hg] at ho
  refine uh_putR h225 hg (by decide) hR dX10_init_101 fR_11_56 (Or.inr ⟨rfl, rfl⟩) rfl (fun G26 T26 hs26 h226 hF26 => ?_)
  rw [← hs26, bS_eq] at ho
  have hF26 := hF25.tr hF26
  refine us_aload_n hR dX10_init_104 rfl ?_
  refine uh_new (ci := 0) 101 h226 (by decide) hR dX10_init_105 (by decide +kernel) (by decide) (Nat.le_of_ble_eq_true rfl) (Nat.le_of_ble_eq_true rfl) (fun G27 T27 hs27 h227 hF27 => ?_)
  rw [← hs27, bS_eq] at ho
  have hF27 := hF26.tr hF27
  change R _ _ _ _ 29 4224
  refine us_dup hR dX10_init_108 rfl ?_
  have hg := gd_c ho
  rw [gd_e hg] at ho
  refine us_pri4 hR dX10_init_109 (by decide +kernel) (H_raw1 h227 hg) (Nat.le_of_ble_eq_true rfl) ?_
  refine hl_init h227 hg (fun G28 T28 hs28 h228 hF28 => ?_)
  rw [← hs28, bS_eq] at ho
  have hF28 := hF27.tr hF28
  have hg := gd_c ho
  rw [gd_e hg] at ho
  refine uh_putR h228 hg (by decide) hR dX10_init_112 fR_11_63 (Or.inr ⟨rfl, rfl⟩) rfl (fun G29 T29 hs29 h229 hF29 => ?_)
  rw [← hs29, bS_eq] at ho
  have hF29 := hF28.tr hF29
  refine us_aload_n hR dX10_init_115 rfl ?_
  refine uh_new (ci := 0) 101 h229 (by decide) hR dX10_init_116 (by decide +kernel) (by decide) (Nat.le_of_ble_eq_true rfl) (Nat.le_of_ble_eq_true rfl) (fun G30 T30 hs30 h230 hF30 => ?_)
  rw [← hs30, bS_eq] at ho
  have hF30 := hF29.tr hF30
  change R _ _ _ _ 28 4221
  refine us_dup hR dX10_init_119 rfl ?_
  have hg := gd_c ho
  rw [gd_e hg] at ho
  refine us_pri4 hR dX10_init_120 (by decide +kernel) (H_raw1 h230 hg) (Nat.le_of_ble_eq_true rfl) ?_
  refine hl_init h230 hg (fun G31 T31 hs31 h231 hF31 => ?_)
  rw [← hs31, bS_eq] at ho
  have hF31 := hF30.tr hF31
  have hg := gd_c ho
  rw [gd_e hg] at ho
  refine uh_putR h231 hg (by decide) hR dX10_init_123 fR_11_67 (Or.inr ⟨rfl, rfl⟩) rfl (fun G32 T32 hs32 h232 hF32 => ?_)
  rw [← hs32, bS_eq] at ho
  have hF32 := hF31.tr hF32
  refine us_aload_n hR dX10_init_126 rfl ?_
  refine uh_new (ci := 6) 107 h232 (by decide) hR dX10_init_127 (by decide +kernel) (by decide) (Nat.le_of_ble_eq_true rfl) (Nat.le_of_ble_eq_true rfl) (fun G33 T33 hs33 h233 hF33 => ?_)
  rw [← hs33, bS_eq] at ho
  have hF33 := hF32.tr hF33
  change R _ _ _ _ 27 4219
  refine us_dup hR dX10_init_130 rfl ?_
  refine us_bipushC hR dX10_init_131 (c := 30) (by decide) ?_
  have hg := gd_c ho
  rw [gd_e hg] at ho
  refine us_callI hR dX10_init_133 (y := 6000) (by decide +kernel) (by decide) (J := i6000) rfl rfl rfl rfl (H_raw7 h233 hg) rfl (Nat.le_of_ble_eq_true rfl) (Nat.le_of_ble_eq_true rfl) (Nat.le_of_ble_eq_true rfl) ?_
  refine hr_init h233 hg (by decide) (fun G34 T34 hs34 h234 hF34 => ?_)
  rw [← hs34, bS_eq] at ho
  have hF34 := hF33.tr hF34
  change R _ _ _ _ 26 4189
  have hg := gd_c ho
  rw [gd_e hg] at ho
  refine uh_putR h234 hg (by decide) hR dX10_init_136 fR_11_70 (Or.inr ⟨rfl, rfl⟩) rfl (fun G35 T35 hs35 h235 hF35 => ?_)
  rw [← hs35, bS_eq] at ho
  have hF35 := hF34.tr hF35
  refine us_aload_n hR dX10_init_139 rfl ?_
  refine uh_new (ci := 6) 107 h235 (by decide) hR dX10_init_140 (by decide +kernel) (by decide) (Nat.le_of_ble_eq_true rfl) (Nat.le_of_ble_eq_true rfl) (fun G36 T36 hs36 h236 hF36 => ?_)
  rw [← hs36, bS_eq] at ho
  have hF36 := hF35.tr hF36
  change R _ _ _ _ 25 4187
  refine us_dup hR dX10_init_143 rfl ?_
  refine us_bipushC hR dX10_init_144 (c := 8) (by decide) ?_
  have hg := gd_c ho
  rw [gd_e hg] at ho
  refine us_callI hR dX10_init_146 (y := 6000) (by decide +kernel) (by decide) (J := i6000) rfl rfl rfl rfl (H_raw7 h236 hg) rfl (Nat.le_of_ble_eq_true rfl) (Nat.le_of_ble_eq_true rfl) (Nat.le_of_ble_eq_true rfl) ?_
  refine hr_init h236 hg (by decide) (fun G37 T37 hs37 h237 hF37 => ?_)
  rw [← hs37, bS_eq] at ho
  have hF37 := hF36.tr hF37
  change R _ _ _ _ 24 4179
  have hg := gd_c ho
  rw [gd_e hg] at ho
  refine uh_putR h237 hg (by decide) hR dX10_init_149 fR_11_73 (Or.inr ⟨rfl, rfl⟩) rfl (fun G38 T38 hs38 h238 hF38 => ?_)
  rw [← hs38, bS_eq] at ho
  have hF38 := hF37.tr hF38
  refine us_vret hR dX10_init_152 rfl ?_
  cases ho
  exact h _ h238 hF38
def h_11001_L95 : Nat → Nat → Int64 → Int32 → Int32 → Nat → Nat → Tx → Option (Tx × (Nat ⊕ Int32))
  | 0, _, _, _, _, _, _, _ => none
  | n + 1, l0, l1, l3, l4, bc, bs, T =>
    if 8 ≤ l4 then
      gd (tK T l0 = 12) <|
      bS (tsV T l0 2 0) fun T2 =>
      gd (tK T2 l0 = 12) <|
      bP (tW T2 l0 0) fun r3 =>
      gd (tK T2 r3 = 7) <|
      some (T2, .inr (nI (tB T2 r3).length))
    else
      bP (h_11035 l1 l4 T) fun r5 =>
      if r5 = 0 then
        h_11001_L95 n l0 l1 l3 (l4 + 1) bc bs T
      else
        gd (tK T l0 = 12) <|
        bP (tW T l0 0) fun r7 =>
        gd (tK T r7 = 7) <|
        bS (tsB T r7 (xadd (tC T r7) (tB T r7) r5)) fun T8 =>
        h_11001_L95 n l0 l1 l3 (l4 + 1) bc bs T8
def h_11001_J56 (k5 : Nat → Int64 → Int32 → Int32 → Nat → Nat → Tx → Option (Tx × (Nat ⊕ Int32))) (l0 : Nat) (l1 : Int64) (l3 : Int32) (l4 : Int32) (l5 : Int32) (bc bs : Nat) (T : Tx) : Option (Tx × (Nat ⊕ Int32)) :=
  if l5 = 0 then
    k5 l0 l1 (l3 + 0) (l4 + 1) bc bs T
  else
    k5 l0 l1 (l3 + 1) (l4 + 1) bc bs T
def h_11001_L5 : Nat → Nat → Int64 → Int32 → Int32 → Nat → Nat → Tx → Option (Tx × (Nat ⊕ Int32))
  | 0, _, _, _, _, _, _, _ => none
  | n + 1, l0, l1, l3, l4, bc, bs, T =>
    if 8 ≤ l4 then
      gd (tK T l0 = 12) <|
      bP (tW T l0 0) fun r11 =>
      gd (tK T r11 = 7) <|
      if ((nI (tB T r11).length) + l3) ≤ 300 then
        h_11001_L95 100 l0 l1 l3 0 bc bs T
      else
        some (T, .inr (-1))
    else
      bP (h_11035 l1 l4 T) fun r14 =>
      if r14 = 0 then
        h_11001_J56 (h_11001_L5 n) l0 l1 l3 l4 r14 bc bs T
      else
        if r14 = 10 then
          h_11001_J56 (h_11001_L5 n) l0 l1 l3 l4 r14 bc bs T
        else
          if r14 < 32 then
            gd ((1 : Nat) ≤ bc ∧ 6 ≤ bs) <|
            some (T, .inl 1)
          else
            if r14 ≤ 126 then
              h_11001_J56 (h_11001_L5 n) l0 l1 l3 l4 r14 bc bs T
            else
              gd ((1 : Nat) ≤ bc ∧ 6 ≤ bs) <|
              some (T, .inl 1)
def h_11001 (me : Nat) (x0 : Int64) (T : Tx) : Option (Tx × (Nat ⊕ Int32)) :=
  h_11001_L5 100 me x0 0 0 1 6 T
theorem sh_11001 {F : Nat → Prop} {d : Nat} {G : ab_G} {T : Tx} {P : ab_Pq} {X : ab_Xq} (h2 : Rep2 F G T) {me : Nat} {x0 : Int64} {o : Tx × (Nat ⊕ Int32)} (ho : h_11001 me x0 T = some o) (h : ∀ G1 v, o.2 = .inr v → Rep2 F G1 o.1 → SameF F G G1 → P G1 (some (.int v))) (hX : ∀ G1 e, o.2 = .inl e → Rep2 F G1 o.1 → SameF F G G1 → X G1 (exn e)) : ab_Gam (d + 10) 11001 [.ref me, .long x0] G P X := by
  have hF : SameF F G G := SameF_rfl
  unfold h_11001 at ho
  refine ab_enter (I := i11001) rfl (Nat.le_of_ble_eq_true rfl) (fun R hR => ?_)
  have h11001_L95 : ∀ (n : Nat) (l0 : Nat) (l1 : Int64) (l3 : Int32) (l4 : Int32) (w5 : Option Value) (T : Tx) (Ga : ab_G) (bc bs : Nat) (h2 : Rep2 F Ga T) (hFa : SameF F G Ga) (ho : h_11001_L95 n l0 l1 l3 l4 bc bs T = some o), R 95 [some (.ref l0), some (.long l1), none, some (.int l3), some (.int l4), w5] [] Ga bc bs := by
    intro n
    induction n with
    | zero => intro l0 l1 l3 l4 w5 T Ga bc bs h2 hFa ho; exact absurd ho (by intro hc; cases hc)
    | succ n95 ih95 =>
      intro l0 l1 l3 l4 w5 T Ga bc bs h2 hFa ho
      rw [h_11001_L95] at ho
      refine us_iload hR dX10_write_95 rfl ?_
      refine us_bipushC hR dX10_write_97 (c := 8) (by decide) ?_
      refine us_icmp_ge hR dX10_write_99 130 (by decide) (fun c1 => ?_) (fun c1 => ?_)
      · rw [if_pos c1] at ho
        refine us_aload_n hR dX10_write_130 rfl ?_
        refine us_iconstC hR dX10_write_131 (c := 0) (by decide) ?_
        have hg := gd_c ho
        rw [gd_e hg] at ho
        refine uh_putI h2 hg (by decide) hR dX10_write_132 fR_11_94 (Or.inl rfl) rfl rfl (fun G2 T2 hs2 h22 hF2 => ?_)
        rw [← hs2, bS_eq] at ho
        have hF2 := hFa.tr hF2
        refine us_aload_n hR dX10_write_135 rfl ?_
        have hg := gd_c ho
        rw [gd_e hg] at ho
        obtain ⟨r3, hr3⟩ := bP_ex ho
        replace ho := bP_go ho hr3
        refine uh_getR h22 hg (by decide) hr3 hR dX10_write_136 fR_11_14 rfl ?_
        have hg := gd_c ho
        rw [gd_e hg] at ho
        refine us_callV hR dX10_write_139 (y := 6001) (by decide +kernel) (by decide) (J := i6001) rfl rfl rfl rfl (H_row6 h22 hg) rfl (Nat.le_of_ble_eq_true rfl) (Nat.zero_le _) (Nat.zero_le _) ?_
        refine hr_size h22 hg ?_
        refine us_iret hR dX10_write_142 rfl rfl ?_
        cases ho
        exact h _ _ rfl h22 hF2
      · rw [if_neg c1] at ho
        refine us_lload_n hR dX10_write_102 rfl ?_
        refine us_iload hR dX10_write_103 rfl ?_
        refine us_callS hR dX10_write_105 (y := 11035) (by decide +kernel) (by decide) (J := i11035) rfl rfl rfl rfl (rest := _) (Nat.le_of_ble_eq_true rfl) (Nat.zero_le _) (Nat.zero_le _) ?_
        obtain ⟨r5, hr5⟩ := bP_ex ho
        replace ho := bP_go ho hr5
        refine sh_11035 h2 hr5 ?_
        refine us_istore hR dX10_write_108 (Nat.le_of_ble_eq_true rfl) ?_
        refine us_iload hR dX10_write_110 rfl ?_
        refine us_if_eq hR dX10_write_112 124 (by decide) (fun c6 => ?_) (fun c6 => ?_)
        · rw [if_pos c6] at ho
          refine us_iincC hR dX10_write_124 rfl (Nat.le_of_ble_eq_true rfl) (c := 1) (by decide) ?_
          refine us_goto hR dX10_write_127 95 (by decide) ?_
          exact ih95 l0 l1 l3 (l4 + 1) _ T Ga _ _ h2 hFa ho
        · rw [if_neg c6] at ho
          refine us_aload_n hR dX10_write_115 rfl ?_
          have hg := gd_c ho
          rw [gd_e hg] at ho
          obtain ⟨r7, hr7⟩ := bP_ex ho
          replace ho := bP_go ho hr7
          refine uh_getR h2 hg (by decide) hr7 hR dX10_write_116 fR_11_14 rfl ?_
          refine us_iload hR dX10_write_119 rfl ?_
          have hg := gd_c ho
          rw [gd_e hg] at ho
          refine us_callV hR dX10_write_121 (y := 6004) (by decide +kernel) (by decide) (J := i6004) rfl rfl rfl rfl (H_row6 h2 hg) rfl (Nat.le_of_ble_eq_true rfl) (Nat.zero_le _) (Nat.zero_le _) ?_
          refine hr_add h2 hg (fun G8 T8 hs8 h28 hF8 => ?_)
          rw [← hs8, bS_eq] at ho
          have hF8 := hFa.tr hF8
          refine us_iincC hR dX10_write_124 rfl (Nat.le_of_ble_eq_true rfl) (c := 1) (by decide) ?_
          refine us_goto hR dX10_write_127 95 (by decide) ?_
          exact ih95 l0 l1 l3 (l4 + 1) _ T8 G8 _ _ h28 hF8 ho
  have h11001_L5 : ∀ (n : Nat) (l0 : Nat) (l1 : Int64) (l3 : Int32) (l4 : Int32) (w5 : Option Value) (T : Tx) (Ga : ab_G) (bc bs : Nat) (h2 : Rep2 F Ga T) (hFa : SameF F G Ga) (ho : h_11001_L5 n l0 l1 l3 l4 bc bs T = some o), R 5 [some (.ref l0), some (.long l1), none, some (.int l3), some (.int l4), w5] [] Ga bc bs := by
    intro n
    induction n with
    | zero => intro l0 l1 l3 l4 w5 T Ga bc bs h2 hFa ho; exact absurd ho (by intro hc; cases hc)
    | succ n5 ih5 =>
      have h11001_J56 : ∀ (l0 : Nat) (l1 : Int64) (l3 : Int32) (l4 : Int32) (l5 : Int32)  (T : Tx) (Ga : ab_G) (bc bs : Nat) (h2 : Rep2 F Ga T) (hFa : SameF F G Ga) (ho : h_11001_J56 (h_11001_L5 n5) l0 l1 l3 l4 l5 bc bs T = some o), R 56 [some (.ref l0), some (.long l1), none, some (.int l3), some (.int l4), some (.int l5)] [] Ga bc bs := by
        intro l0 l1 l3 l4 l5  T Ga bc bs h2 hFa ho
        unfold h_11001_J56 at ho
        refine us_iload_n hR dX10_write_56 rfl ?_
        refine us_iload hR dX10_write_57 rfl ?_
        refine us_if_ne hR dX10_write_59 66 (by decide) (fun c9 => ?_) (fun c9 => ?_)
        · rw [if_neg c9] at ho
          refine us_iconstC hR dX10_write_66 (c := 1) (by decide) ?_
          refine us_iadd hR dX10_write_67 ?_
          refine us_istore_n hR dX10_write_68 (Nat.le_of_ble_eq_true rfl) ?_
          refine us_iincC hR dX10_write_69 rfl (Nat.le_of_ble_eq_true rfl) (c := 1) (by decide) ?_
          refine us_goto hR dX10_write_72 5 (by decide) ?_
          exact ih5 l0 l1 (l3 + 1) (l4 + 1) _ T Ga _ _ h2 hFa ho
        · rw [if_pos c9] at ho
          refine us_iconstC hR dX10_write_62 (c := 0) (by decide) ?_
          refine us_goto hR dX10_write_63 67 (by decide) ?_
          refine us_iadd hR dX10_write_67 ?_
          refine us_istore_n hR dX10_write_68 (Nat.le_of_ble_eq_true rfl) ?_
          refine us_iincC hR dX10_write_69 rfl (Nat.le_of_ble_eq_true rfl) (c := 1) (by decide) ?_
          refine us_goto hR dX10_write_72 5 (by decide) ?_
          exact ih5 l0 l1 (l3 + 0) (l4 + 1) _ T Ga _ _ h2 hFa ho
      intro l0 l1 l3 l4 w5 T Ga bc bs h2 hFa ho
      rw [h_11001_L5] at ho
      refine us_iload hR dX10_write_5 rfl ?_
      refine us_bipushC hR dX10_write_7 (c := 8) (by decide) ?_
      refine us_icmp_ge hR dX10_write_9 75 (by decide) (fun c10 => ?_) (fun c10 => ?_)
      · rw [if_pos c10] at ho
        refine us_aload_n hR dX10_write_75 rfl ?_
        have hg := gd_c ho
        rw [gd_e hg] at ho
        obtain ⟨r11, hr11⟩ := bP_ex ho
        replace ho := bP_go ho hr11
        refine uh_getR h2 hg (by decide) hr11 hR dX10_write_76 fR_11_14 rfl ?_
        have hg := gd_c ho
        rw [gd_e hg] at ho
        refine us_callV hR dX10_write_79 (y := 6001) (by decide +kernel) (by decide) (J := i6001) rfl rfl rfl rfl (H_row6 h2 hg) rfl (Nat.le_of_ble_eq_true rfl) (Nat.zero_le _) (Nat.zero_le _) ?_
        refine hr_size h2 hg ?_
        refine us_iload_n hR dX10_write_82 rfl ?_
        refine us_iadd hR dX10_write_83 ?_
        refine us_sipushC hR dX10_write_84 (c := 300) (by decide) ?_
        refine us_icmp_le hR dX10_write_87 92 (by decide) (fun c13 => ?_) (fun c13 => ?_)
        · rw [if_pos c13] at ho
          refine us_iconstC hR dX10_write_92 (c := 0) (by decide) ?_
          refine us_istore hR dX10_write_93 (Nat.le_of_ble_eq_true rfl) ?_
          exact h11001_L95 _ l0 l1 l3 0 _ T Ga _ _ h2 hFa ho
        · rw [if_neg c13] at ho
          refine us_iconstC hR dX10_write_90 (c := (-1)) (by decide) ?_
          refine us_iret hR dX10_write_91 rfl rfl ?_
          cases ho
          exact h _ _ rfl h2 hFa
      · rw [if_neg c10] at ho
        refine us_lload_n hR dX10_write_12 rfl ?_
        refine us_iload hR dX10_write_13 rfl ?_
        refine us_callS hR dX10_write_15 (y := 11035) (by decide +kernel) (by decide) (J := i11035) rfl rfl rfl rfl (rest := _) (Nat.le_of_ble_eq_true rfl) (Nat.zero_le _) (Nat.zero_le _) ?_
        obtain ⟨r14, hr14⟩ := bP_ex ho
        replace ho := bP_go ho hr14
        refine sh_11035 h2 hr14 ?_
        refine us_istore hR dX10_write_18 (Nat.le_of_ble_eq_true rfl) ?_
        refine us_iload hR dX10_write_20 rfl ?_
        refine us_if_eq hR dX10_write_22 56 (by decide) (fun c15 => ?_) (fun c15 => ?_)
        · rw [if_pos c15] at ho
          exact h11001_J56 l0 l1 l3 l4 r14  T Ga _ _ h2 hFa ho
        · rw [if_neg c15] at ho
          refine us_iload hR dX10_write_25 rfl ?_
          refine us_bipushC hR dX10_write_27 (c := 10) (by decide) ?_
          refine us_icmp_eq hR dX10_write_29 56 (by decide) (fun c16 => ?_) (fun c16 => ?_)
          · rw [if_pos c16] at ho
            exact h11001_J56 l0 l1 l3 l4 r14  T Ga _ _ h2 hFa ho
          · rw [if_neg c16] at ho
            refine us_iload hR dX10_write_32 rfl ?_
            refine us_bipushC hR dX10_write_34 (c := 32) (by decide) ?_
            refine us_icmp_lt hR dX10_write_36 46 (by decide) (fun c17 => ?_) (fun c17 => ?_)
            · rw [if_pos c17] at ho
              have hb := gd_c ho
              rw [gd_e hb] at ho
              refine us_throw (E := "java/lang/IllegalArgumentException") (t := "a byte is no sign") hR dX10_write_46 (by decide +kernel) (by decide +kernel) dX10_write_49 rfl dX10_write_50 (by decide +kernel) dX10_write_52 dX10_write_55 (by omega) hb.1 hb.2 (Nat.le_of_ble_eq_true rfl) ?_
              cases ho
              exact hX _ _ rfl h2 hFa
            · rw [if_neg c17] at ho
              refine us_iload hR dX10_write_39 rfl ?_
              refine us_bipushC hR dX10_write_41 (c := 126) (by decide) ?_
              refine us_icmp_le hR dX10_write_43 56 (by decide) (fun c18 => ?_) (fun c18 => ?_)
              · rw [if_pos c18] at ho
                exact h11001_J56 l0 l1 l3 l4 r14  T Ga _ _ h2 hFa ho
              · rw [if_neg c18] at ho
                have hb := gd_c ho
                rw [gd_e hb] at ho
                refine us_throw (E := "java/lang/IllegalArgumentException") (t := "a byte is no sign") hR dX10_write_46 (by decide +kernel) (by decide +kernel) dX10_write_49 rfl dX10_write_50 (by decide +kernel) dX10_write_52 dX10_write_55 (by omega) hb.1 hb.2 (Nat.le_of_ble_eq_true rfl) ?_
                cases ho
                exact hX _ _ rfl h2 hFa
  change R _ _ _ _ 1 6
  refine us_iconstC hR dX10_write_0 (c := 0) (by decide) ?_
  refine us_istore_n hR dX10_write_1 (Nat.le_of_ble_eq_true rfl) ?_
  refine us_iconstC hR dX10_write_2 (c := 0) (by decide) ?_
  refine us_istore hR dX10_write_3 (Nat.le_of_ble_eq_true rfl) ?_
  exact h11001_L5 _ me x0 0 0 _ T G _ _ h2 hF ho
def h_11002 (me : Nat) (T : Tx) : Option (Tx × Int32) :=
  gd (tK T me = 12) <|
  bP (tW T me 0) fun r1 =>
  gd (tK T r1 = 7) <|
  gd (tK T me = 12) <|
  bP (tW T me 0) fun r3 =>
  gd (tK T r3 = 7) <|
  bS (tsB T r3 []) fun T4 =>
  gd (tK T4 me = 12) <|
  bS (tsV T4 me 2 0) fun T5 =>
  some (T5, (nI (tB T r1).length))
theorem sh_11002 {F : Nat → Prop} {d : Nat} {G : ab_G} {T : Tx} {P : ab_Pq} {X : ab_Xq} (h2 : Rep2 F G T) {me : Nat} {o : Tx × Int32} (ho : h_11002 me T = some o) (h : ∀ G1, Rep2 F G1 o.1 → SameF F G G1 → P G1 (some (.int o.2))) : ab_Gam (d + 2) 11002 [.ref me] G P X := by
  have hF : SameF F G G := SameF_rfl
  unfold h_11002 at ho
  refine ab_enter (I := i11002) rfl (Nat.le_of_ble_eq_true rfl) (fun R hR => ?_)
  refine us_aload_n hR dX10_wipe_0 rfl ?_
  have hg := gd_c ho
  rw [gd_e hg] at ho
  obtain ⟨r1, hr1⟩ := bP_ex ho
  replace ho := bP_go ho hr1
  refine uh_getR h2 hg (by decide) hr1 hR dX10_wipe_1 fR_11_14 rfl ?_
  have hg := gd_c ho
  rw [gd_e hg] at ho
  refine us_callV hR dX10_wipe_4 (y := 6001) (by decide +kernel) (by decide) (J := i6001) rfl rfl rfl rfl (H_row6 h2 hg) rfl (Nat.le_of_ble_eq_true rfl) (Nat.zero_le _) (Nat.zero_le _) ?_
  refine hr_size h2 hg ?_
  refine us_istore_n hR dX10_wipe_7 (Nat.le_of_ble_eq_true rfl) ?_
  refine us_aload_n hR dX10_wipe_8 rfl ?_
  have hg := gd_c ho
  rw [gd_e hg] at ho
  obtain ⟨r3, hr3⟩ := bP_ex ho
  replace ho := bP_go ho hr3
  refine uh_getR h2 hg (by decide) hr3 hR dX10_wipe_9 fR_11_14 rfl ?_
  have hg := gd_c ho
  rw [gd_e hg] at ho
  refine us_callV hR dX10_wipe_12 (y := 6008) (by decide +kernel) (by decide) (J := i6008) rfl rfl rfl rfl (H_row6 h2 hg) rfl (Nat.le_of_ble_eq_true rfl) (Nat.zero_le _) (Nat.zero_le _) ?_
  refine hr_empty h2 hg (fun G4 T4 hs4 h24 hF4 => ?_)
  rw [← hs4, bS_eq] at ho
  have hF4 := hF.tr hF4
  refine us_aload_n hR dX10_wipe_15 rfl ?_
  refine us_iconstC hR dX10_wipe_16 (c := 0) (by decide) ?_
  have hg := gd_c ho
  rw [gd_e hg] at ho
  refine uh_putI h24 hg (by decide) hR dX10_wipe_17 fR_11_94 (Or.inl rfl) rfl rfl (fun G5 T5 hs5 h25 hF5 => ?_)
  rw [← hs5, bS_eq] at ho
  have hF5 := hF4.tr hF5
  refine us_iload_n hR dX10_wipe_20 rfl ?_
  refine us_iret hR dX10_wipe_21 rfl rfl ?_
  cases ho
  exact h _ h25 hF5
def h_11003 (me : Nat) (x0 : Int32) (T : Tx) : Option (Tx × (Nat ⊕ Int32)) :=
  if x0 < 1 then
    some (T, .inl 1)
  else
    gd (tK T me = 12) <|
    bP (tW T me 0) fun r2 =>
    gd (tK T r2 = 7) <|
    if x0 ≤ (nI (tB T r2).length) then
      gd (tK T me = 12) <|
      bP (tW T me 0) fun r5 =>
      gd (tK T me = 12) <|
      bP (tW T me 0) fun r6 =>
      gd (tK T r6 = 7) <|
      gd (tK T r5 = 7) <|
      bS (tsB T r5 (xcut (tB T r5) ((nI (tB T r6).length) - x0))) fun T8 =>
      gd (tK T8 me = 12) <|
      bS (tsV T8 me 2 0) fun T9 =>
      gd (tK T9 me = 12) <|
      bP (tW T9 me 0) fun r10 =>
      gd (tK T9 r10 = 7) <|
      some (T9, .inr (nI (tB T9 r10).length))
    else
      some (T, .inl 1)
theorem sh_11003 {F : Nat → Prop} {d : Nat} {G : ab_G} {T : Tx} {P : ab_Pq} {X : ab_Xq} (h2 : Rep2 F G T) {me : Nat} {x0 : Int32} {o : Tx × (Nat ⊕ Int32)} (ho : h_11003 me x0 T = some o) (h : ∀ G1 v, o.2 = .inr v → Rep2 F G1 o.1 → SameF F G G1 → P G1 (some (.int v))) (hX : ∀ G1 e, o.2 = .inl e → Rep2 F G1 o.1 → SameF F G G1 → X G1 (exn e)) : ab_Gam (d + 10) 11003 [.ref me, .int x0] G P X := by
  have hF : SameF F G G := SameF_rfl
  unfold h_11003 at ho
  refine ab_enter (I := i11003) rfl (Nat.le_of_ble_eq_true rfl) (fun R hR => ?_)
  change R _ _ _ _ 1 6
  refine us_iload_n hR dX10_erase_0 rfl ?_
  refine us_iconstC hR dX10_erase_1 (c := 1) (by decide) ?_
  refine us_icmp_lt hR dX10_erase_2 16 (by decide) (fun c1 => ?_) (fun c1 => ?_)
  · rw [if_pos c1] at ho
    change R _ _ _ _ 1 6
    refine us_throw (E := "java/lang/IllegalArgumentException") (t := "no such count of signs") hR dX10_erase_16 (by decide +kernel) (by decide +kernel) dX10_erase_19 rfl dX10_erase_20 (by decide +kernel) dX10_erase_22 dX10_erase_25 (by omega) (Nat.le_of_ble_eq_true rfl) (Nat.le_of_ble_eq_true rfl) (Nat.le_of_ble_eq_true rfl) ?_
    cases ho
    exact hX _ _ rfl h2 hF
  · rw [if_neg c1] at ho
    change R _ _ _ _ 1 6
    refine us_iload_n hR dX10_erase_5 rfl ?_
    refine us_aload_n hR dX10_erase_6 rfl ?_
    have hg := gd_c ho
    rw [gd_e hg] at ho
    obtain ⟨r2, hr2⟩ := bP_ex ho
    replace ho := bP_go ho hr2
    refine uh_getR h2 hg (by decide) hr2 hR dX10_erase_7 fR_11_14 rfl ?_
    have hg := gd_c ho
    rw [gd_e hg] at ho
    refine us_callV hR dX10_erase_10 (y := 6001) (by decide +kernel) (by decide) (J := i6001) rfl rfl rfl rfl (H_row6 h2 hg) rfl (Nat.le_of_ble_eq_true rfl) (Nat.zero_le _) (Nat.zero_le _) ?_
    refine hr_size h2 hg ?_
    refine us_icmp_le hR dX10_erase_13 26 (by decide) (fun c4 => ?_) (fun c4 => ?_)
    · rw [if_pos c4] at ho
      change R _ _ _ _ 1 6
      refine us_aload_n hR dX10_erase_26 rfl ?_
      have hg := gd_c ho
      rw [gd_e hg] at ho
      obtain ⟨r5, hr5⟩ := bP_ex ho
      replace ho := bP_go ho hr5
      refine uh_getR h2 hg (by decide) hr5 hR dX10_erase_27 fR_11_14 rfl ?_
      refine us_aload_n hR dX10_erase_30 rfl ?_
      have hg := gd_c ho
      rw [gd_e hg] at ho
      obtain ⟨r6, hr6⟩ := bP_ex ho
      replace ho := bP_go ho hr6
      refine uh_getR h2 hg (by decide) hr6 hR dX10_erase_31 fR_11_14 rfl ?_
      have hg := gd_c ho
      rw [gd_e hg] at ho
      refine us_callV hR dX10_erase_34 (y := 6001) (by decide +kernel) (by decide) (J := i6001) rfl rfl rfl rfl (H_row6 h2 hg) rfl (Nat.le_of_ble_eq_true rfl) (Nat.zero_le _) (Nat.zero_le _) ?_
      refine hr_size h2 hg ?_
      refine us_iload_n hR dX10_erase_37 rfl ?_
      refine us_isub hR dX10_erase_38 ?_
      have hg := gd_c ho
      rw [gd_e hg] at ho
      refine us_callV hR dX10_erase_39 (y := 6007) (by decide +kernel) (by decide) (J := i6007) rfl rfl rfl rfl (H_row6 h2 hg) rfl (Nat.le_of_ble_eq_true rfl) (Nat.zero_le _) (Nat.zero_le _) ?_
      refine hr_cut h2 hg (fun G8 T8 hs8 h28 hF8 => ?_)
      rw [← hs8, bS_eq] at ho
      have hF8 := hF.tr hF8
      refine us_aload_n hR dX10_erase_42 rfl ?_
      refine us_iconstC hR dX10_erase_43 (c := 0) (by decide) ?_
      have hg := gd_c ho
      rw [gd_e hg] at ho
      refine uh_putI h28 hg (by decide) hR dX10_erase_44 fR_11_94 (Or.inl rfl) rfl rfl (fun G9 T9 hs9 h29 hF9 => ?_)
      rw [← hs9, bS_eq] at ho
      have hF9 := hF8.tr hF9
      refine us_aload_n hR dX10_erase_47 rfl ?_
      have hg := gd_c ho
      rw [gd_e hg] at ho
      obtain ⟨r10, hr10⟩ := bP_ex ho
      replace ho := bP_go ho hr10
      refine uh_getR h29 hg (by decide) hr10 hR dX10_erase_48 fR_11_14 rfl ?_
      have hg := gd_c ho
      rw [gd_e hg] at ho
      refine us_callV hR dX10_erase_51 (y := 6001) (by decide +kernel) (by decide) (J := i6001) rfl rfl rfl rfl (H_row6 h29 hg) rfl (Nat.le_of_ble_eq_true rfl) (Nat.zero_le _) (Nat.zero_le _) ?_
      refine hr_size h29 hg ?_
      refine us_iret hR dX10_erase_54 rfl rfl ?_
      cases ho
      exact h _ _ rfl h29 hF9
    · rw [if_neg c4] at ho
      change R _ _ _ _ 1 6
      refine us_throw (E := "java/lang/IllegalArgumentException") (t := "no such count of signs") hR dX10_erase_16 (by decide +kernel) (by decide +kernel) dX10_erase_19 rfl dX10_erase_20 (by decide +kernel) dX10_erase_22 dX10_erase_25 (by omega) (Nat.le_of_ble_eq_true rfl) (Nat.le_of_ble_eq_true rfl) (Nat.le_of_ble_eq_true rfl) ?_
      cases ho
      exact hX _ _ rfl h2 hF
def h_11004 (me : Nat) (T : Tx) : Option Int32 :=
  gd (tK T me = 12) <|
  bP (tW T me 0) fun r1 =>
  gd (tK T r1 = 7) <|
  some ((nI (tB T r1).length))
theorem sh_11004 {F : Nat → Prop} {d : Nat} {G : ab_G} {T : Tx} {P : ab_Pq} {X : ab_Xq} (h2 : Rep2 F G T) {me : Nat} {o : Int32} (ho : h_11004 me T = some o) (h : P G (some (.int o))) : ab_Gam (d + 2) 11004 [.ref me] G P X := by
  have hF : SameF F G G := SameF_rfl
  unfold h_11004 at ho
  refine ab_enter (I := i11004) rfl (Nat.le_of_ble_eq_true rfl) (fun R hR => ?_)
  refine us_aload_n hR dX10_length_0 rfl ?_
  have hg := gd_c ho
  rw [gd_e hg] at ho
  obtain ⟨r1, hr1⟩ := bP_ex ho
  replace ho := bP_go ho hr1
  refine uh_getR h2 hg (by decide) hr1 hR dX10_length_1 fR_11_14 rfl ?_
  have hg := gd_c ho
  rw [gd_e hg] at ho
  refine us_callV hR dX10_length_4 (y := 6001) (by decide +kernel) (by decide) (J := i6001) rfl rfl rfl rfl (H_row6 h2 hg) rfl (Nat.le_of_ble_eq_true rfl) (Nat.zero_le _) (Nat.zero_le _) ?_
  refine hr_size h2 hg ?_
  refine us_iret hR dX10_length_7 rfl rfl ?_
  cases ho
  exact h
def h_11005 (me : Nat) (x0 : Int32) (T : Tx) : Option (Nat ⊕ Int32) :=
  if x0 < 0 then
    some (.inl 2)
  else
    gd (tK T me = 12) <|
    bP (tW T me 0) fun r2 =>
    gd (tK T r2 = 7) <|
    if x0 < (nI (tB T r2).length) then
      gd (tK T me = 12) <|
      bP (tW T me 0) fun r5 =>
      gd (tK T r5 = 7) <|
      gd (nch (((xg (tB T r5) x0).toUInt32 % 65536).toInt32)) <|
      some (.inr (((xg (tB T r5) x0).toUInt32 % 65536).toInt32))
    else
      some (.inl 2)
theorem sh_11005 {F : Nat → Prop} {d : Nat} {G : ab_G} {T : Tx} {P : ab_Pq} {X : ab_Xq} (h2 : Rep2 F G T) {me : Nat} {x0 : Int32} {o : (Nat ⊕ Int32)} (ho : h_11005 me x0 T = some o) (h : ∀ v, o = .inr v → P G (some (.int v))) (hX : ∀ e, o = .inl e → X G (exn e)) : ab_Gam (d + 10) 11005 [.ref me, .int x0] G P X := by
  have hF : SameF F G G := SameF_rfl
  unfold h_11005 at ho
  refine ab_enter (I := i11005) rfl (Nat.le_of_ble_eq_true rfl) (fun R hR => ?_)
  change R _ _ _ _ 1 6
  refine us_iload_n hR dX10_signAt_0 rfl ?_
  refine us_if_lt hR dX10_signAt_1 15 (by decide) (fun c1 => ?_) (fun c1 => ?_)
  · rw [if_pos c1] at ho
    change R _ _ _ _ 1 6
    refine us_throw (E := "java/lang/IndexOutOfBoundsException") (t := "no such place") hR dX10_signAt_15 (by decide +kernel) (by decide +kernel) dX10_signAt_18 rfl dX10_signAt_19 (by decide +kernel) dX10_signAt_21 dX10_signAt_24 (by omega) (Nat.le_of_ble_eq_true rfl) (Nat.le_of_ble_eq_true rfl) (Nat.le_of_ble_eq_true rfl) ?_
    cases ho
    exact hX _ rfl
  · rw [if_neg c1] at ho
    change R _ _ _ _ 1 6
    refine us_iload_n hR dX10_signAt_4 rfl ?_
    refine us_aload_n hR dX10_signAt_5 rfl ?_
    have hg := gd_c ho
    rw [gd_e hg] at ho
    obtain ⟨r2, hr2⟩ := bP_ex ho
    replace ho := bP_go ho hr2
    refine uh_getR h2 hg (by decide) hr2 hR dX10_signAt_6 fR_11_14 rfl ?_
    have hg := gd_c ho
    rw [gd_e hg] at ho
    refine us_callV hR dX10_signAt_9 (y := 6001) (by decide +kernel) (by decide) (J := i6001) rfl rfl rfl rfl (H_row6 h2 hg) rfl (Nat.le_of_ble_eq_true rfl) (Nat.zero_le _) (Nat.zero_le _) ?_
    refine hr_size h2 hg ?_
    refine us_icmp_lt hR dX10_signAt_12 25 (by decide) (fun c4 => ?_) (fun c4 => ?_)
    · rw [if_pos c4] at ho
      change R _ _ _ _ 1 6
      refine us_aload_n hR dX10_signAt_25 rfl ?_
      have hg := gd_c ho
      rw [gd_e hg] at ho
      obtain ⟨r5, hr5⟩ := bP_ex ho
      replace ho := bP_go ho hr5
      refine uh_getR h2 hg (by decide) hr5 hR dX10_signAt_26 fR_11_14 rfl ?_
      refine us_iload_n hR dX10_signAt_29 rfl ?_
      have hg := gd_c ho
      rw [gd_e hg] at ho
      refine us_callV hR dX10_signAt_30 (y := 6002) (by decide +kernel) (by decide) (J := i6002) rfl rfl rfl rfl (H_row6 h2 hg) rfl (Nat.le_of_ble_eq_true rfl) (Nat.zero_le _) (Nat.zero_le _) ?_
      refine hr_get h2 hg ?_
      refine us_i2c hR dX10_signAt_33 ?_
      have hg := gd_c ho
      rw [gd_e hg] at ho
      refine us_iret hR dX10_signAt_34 rfl (nar_ch hg) ?_
      cases ho
      exact h _ rfl
    · rw [if_neg c4] at ho
      change R _ _ _ _ 1 6
      refine us_throw (E := "java/lang/IndexOutOfBoundsException") (t := "no such place") hR dX10_signAt_15 (by decide +kernel) (by decide +kernel) dX10_signAt_18 rfl dX10_signAt_19 (by decide +kernel) dX10_signAt_21 dX10_signAt_24 (by omega) (Nat.le_of_ble_eq_true rfl) (Nat.le_of_ble_eq_true rfl) (Nat.le_of_ble_eq_true rfl) ?_
      cases ho
      exact hX _ rfl
def h_11006 (me : Nat) (T : Tx) : Option (Tx × Int32) :=
  gd (tK T me = 12) <|
  bOv (h_11042 me T) fun T1 =>
  gd (tK T1 me = 12) <|
  bP (tW T1 me 1) fun r2 =>
  gd (tK T1 r2 = 5) <|
  some (T1, (tV T1 r2 9))
theorem sh_11006 {F : Nat → Prop} {d : Nat} {G : ab_G} {T : Tx} {P : ab_Pq} {X : ab_Xq} (h2 : Rep2 F G T) {me : Nat} {o : Tx × Int32} (ho : h_11006 me T = some o) (h : ∀ G1, Rep2 F G1 o.1 → SameF F G G1 → P G1 (some (.int o.2))) : ab_Gam (d + 915) 11006 [.ref me] G P X := by
  have hF : SameF F G G := SameF_rfl
  unfold h_11006 at ho
  refine ab_enter (I := i11006) rfl (Nat.le_of_ble_eq_true rfl) (fun R hR => ?_)
  change R _ _ _ _ 40 3700
  refine us_aload_n hR dX10_fault_0 rfl ?_
  have hg := gd_c ho
  rw [gd_e hg] at ho
  refine us_callV hR dX10_fault_1 (y := 11042) (by decide +kernel) (by decide) (J := i11042) rfl rfl rfl rfl (H_kind1 h2 hg (by decide)) rfl (Nat.le_of_ble_eq_true rfl) (Nat.le_of_ble_eq_true rfl) (Nat.le_of_ble_eq_true rfl) ?_
  obtain ⟨T1, hs1⟩ := bOv_ex ho
  replace ho := bOv_go ho hs1
  refine sh_11042 h2 hs1 (fun G1 h21 hF1 => ?_)
  have hF1 := hF.tr hF1
  change R _ _ _ _ 0 0
  refine us_aload_n hR dX10_fault_4 rfl ?_
  have hg := gd_c ho
  rw [gd_e hg] at ho
  obtain ⟨r2, hr2⟩ := bP_ex ho
  replace ho := bP_go ho hr2
  refine uh_getR h21 hg (by decide) hr2 hR dX10_fault_5 fR_11_21 rfl ?_
  have hg := gd_c ho
  rw [gd_e hg] at ho
  refine uh_getI (ci := 4) (f := 9) h21 hg (by decide) hR dX10_fault_8 fR_11_118 rfl ?_
  refine us_iret hR dX10_fault_11 rfl rfl ?_
  cases ho
  exact h _ h21 hF1
def h_11007 (me : Nat) (T : Tx) : Option (Tx × Int32) :=
  gd (tK T me = 12) <|
  bOv (h_11042 me T) fun T1 =>
  gd (tK T1 me = 12) <|
  bP (tW T1 me 1) fun r2 =>
  gd (tK T1 r2 = 5) <|
  if (tV T1 r2 9) = 0 then
    some (T1, (-1))
  else
    gd (tK T1 me = 12) <|
    bP (tW T1 me 1) fun r4 =>
    gd (tK T1 r4 = 5) <|
    bP (tW T1 r4 0) fun r5 =>
    gd (tK T1 r5 = 10) <|
    bP (tW T1 r5 2) fun r6 =>
    gd (tK T1 me = 12) <|
    bP (tW T1 me 1) fun r7 =>
    gd (tK T1 r7 = 5) <|
    gd (tK T1 r6 = 7) <|
    some (T1, (xg (tB T1 r6) (tV T1 r7 10)))
theorem sh_11007 {F : Nat → Prop} {d : Nat} {G : ab_G} {T : Tx} {P : ab_Pq} {X : ab_Xq} (h2 : Rep2 F G T) {me : Nat} {o : Tx × Int32} (ho : h_11007 me T = some o) (h : ∀ G1, Rep2 F G1 o.1 → SameF F G G1 → P G1 (some (.int o.2))) : ab_Gam (d + 915) 11007 [.ref me] G P X := by
  have hF : SameF F G G := SameF_rfl
  unfold h_11007 at ho
  refine ab_enter (I := i11007) rfl (Nat.le_of_ble_eq_true rfl) (fun R hR => ?_)
  change R _ _ _ _ 40 3700
  refine us_aload_n hR dX10_faultPlace_0 rfl ?_
  have hg := gd_c ho
  rw [gd_e hg] at ho
  refine us_callV hR dX10_faultPlace_1 (y := 11042) (by decide +kernel) (by decide) (J := i11042) rfl rfl rfl rfl (H_kind1 h2 hg (by decide)) rfl (Nat.le_of_ble_eq_true rfl) (Nat.le_of_ble_eq_true rfl) (Nat.le_of_ble_eq_true rfl) ?_
  obtain ⟨T1, hs1⟩ := bOv_ex ho
  replace ho := bOv_go ho hs1
  refine sh_11042 h2 hs1 (fun G1 h21 hF1 => ?_)
  have hF1 := hF.tr hF1
  change R _ _ _ _ 0 0
  refine us_aload_n hR dX10_faultPlace_4 rfl ?_
  have hg := gd_c ho
  rw [gd_e hg] at ho
  obtain ⟨r2, hr2⟩ := bP_ex ho
  replace ho := bP_go ho hr2
  refine uh_getR h21 hg (by decide) hr2 hR dX10_faultPlace_5 fR_11_21 rfl ?_
  have hg := gd_c ho
  rw [gd_e hg] at ho
  refine uh_getI (ci := 4) (f := 9) h21 hg (by decide) hR dX10_faultPlace_8 fR_11_118 rfl ?_
  refine us_if_ne hR dX10_faultPlace_11 18 (by decide) (fun c3 => ?_) (fun c3 => ?_)
  · rw [if_neg c3] at ho
    change R _ _ _ _ 0 0
    refine us_aload_n hR dX10_faultPlace_18 rfl ?_
    have hg := gd_c ho
    rw [gd_e hg] at ho
    obtain ⟨r4, hr4⟩ := bP_ex ho
    replace ho := bP_go ho hr4
    refine uh_getR h21 hg (by decide) hr4 hR dX10_faultPlace_19 fR_11_21 rfl ?_
    have hg := gd_c ho
    rw [gd_e hg] at ho
    obtain ⟨r5, hr5⟩ := bP_ex ho
    replace ho := bP_go ho hr5
    refine uh_getR h21 hg (by decide) hr5 hR dX10_faultPlace_22 fR_11_122 rfl ?_
    have hg := gd_c ho
    rw [gd_e hg] at ho
    obtain ⟨r6, hr6⟩ := bP_ex ho
    replace ho := bP_go ho hr6
    refine uh_getR h21 hg (by decide) hr6 hR dX10_faultPlace_25 fR_11_126 rfl ?_
    refine us_aload_n hR dX10_faultPlace_28 rfl ?_
    have hg := gd_c ho
    rw [gd_e hg] at ho
    obtain ⟨r7, hr7⟩ := bP_ex ho
    replace ho := bP_go ho hr7
    refine uh_getR h21 hg (by decide) hr7 hR dX10_faultPlace_29 fR_11_21 rfl ?_
    have hg := gd_c ho
    rw [gd_e hg] at ho
    refine uh_getI (ci := 4) (f := 10) h21 hg (by decide) hR dX10_faultPlace_32 fR_11_131 rfl ?_
    have hg := gd_c ho
    rw [gd_e hg] at ho
    refine us_callV hR dX10_faultPlace_35 (y := 6002) (by decide +kernel) (by decide) (J := i6002) rfl rfl rfl rfl (H_row6 h21 hg) rfl (Nat.le_of_ble_eq_true rfl) (Nat.zero_le _) (Nat.zero_le _) ?_
    refine hr_get h21 hg ?_
    refine us_iret hR dX10_faultPlace_38 rfl rfl ?_
    cases ho
    exact h _ h21 hF1
  · rw [if_pos c3] at ho
    change R _ _ _ _ 0 0
    refine us_iconstC hR dX10_faultPlace_14 (c := (-1)) (by decide) ?_
    refine us_goto hR dX10_faultPlace_15 38 (by decide) ?_
    refine us_iret hR dX10_faultPlace_38 rfl rfl ?_
    cases ho
    exact h _ h21 hF1
def h_11008 (me : Nat) (T : Tx) : Option (Tx × (Nat ⊕ Int32)) :=
  gd (tK T me = 12) <|
  bOv (h_11042 me T) fun T1 =>
  gd (tK T1 me = 12) <|
  bXp T1 (h_11043 me T1) fun r2 =>
  gd (tK T1 me = 12) <|
  bP (tW T1 me 1) fun r3 =>
  gd (tK T1 r3 = 5) <|
  bP (h_4004 r3 T1) fun r4 =>
  some (T1, .inr r4)
theorem sh_11008 {F : Nat → Prop} {d : Nat} {G : ab_G} {T : Tx} {P : ab_Pq} {X : ab_Xq} (h2 : Rep2 F G T) {me : Nat} {o : Tx × (Nat ⊕ Int32)} (ho : h_11008 me T = some o) (h : ∀ G1 v, o.2 = .inr v → Rep2 F G1 o.1 → SameF F G G1 → P G1 (some (.int v))) (hX : ∀ G1 e, o.2 = .inl e → Rep2 F G1 o.1 → SameF F G G1 → X G1 (exn e)) : ab_Gam (d + 915) 11008 [.ref me] G P X := by
  have hF : SameF F G G := SameF_rfl
  unfold h_11008 at ho
  refine ab_enter (I := i11008) rfl (Nat.le_of_ble_eq_true rfl) (fun R hR => ?_)
  change R _ _ _ _ 41 3706
  refine us_aload_n hR dX10_draftParts_0 rfl ?_
  have hg := gd_c ho
  rw [gd_e hg] at ho
  refine us_callV hR dX10_draftParts_1 (y := 11042) (by decide +kernel) (by decide) (J := i11042) rfl rfl rfl rfl (H_kind1 h2 hg (by decide)) rfl (Nat.le_of_ble_eq_true rfl) (Nat.le_of_ble_eq_true rfl) (Nat.le_of_ble_eq_true rfl) ?_
  obtain ⟨T1, hs1⟩ := bOv_ex ho
  replace ho := bOv_go ho hs1
  refine sh_11042 h2 hs1 (fun G1 h21 hF1 => ?_)
  have hF1 := hF.tr hF1
  change R _ _ _ _ 1 6
  refine us_aload_n hR dX10_draftParts_4 rfl ?_
  have hg := gd_c ho
  rw [gd_e hg] at ho
  refine us_callV hR dX10_draftParts_5 (y := 11043) (by decide +kernel) (by decide) (J := i11043) rfl rfl rfl rfl (H_kind1 h21 hg (by decide)) rfl (Nat.le_of_ble_eq_true rfl) (Nat.le_of_ble_eq_true rfl) (Nat.le_of_ble_eq_true rfl) ?_
  obtain ⟨q2, hq2⟩ := bXp_ex ho
  rw [hq2] at ho
  refine sh_11043 h21 hq2 (fun r2 hr2 => ?_) (fun e2 hr2 => ?_)
  rotate_left
  · subst hr2
    cases ho
    exact ⟨rfl, hX _ _ rfl h21 hF1⟩
  subst hr2
  rw [bXp_some] at ho
  change R _ _ _ _ 0 0
  refine us_aload_n hR dX10_draftParts_8 rfl ?_
  have hg := gd_c ho
  rw [gd_e hg] at ho
  obtain ⟨r3, hr3⟩ := bP_ex ho
  replace ho := bP_go ho hr3
  refine uh_getR h21 hg (by decide) hr3 hR dX10_draftParts_9 fR_11_21 rfl ?_
  have hg := gd_c ho
  rw [gd_e hg] at ho
  refine us_callV hR dX10_draftParts_12 (y := 4004) (by decide +kernel) (by decide) (J := i4004) rfl rfl rfl rfl (H_kind1 h21 hg (by decide)) rfl (Nat.le_of_ble_eq_true rfl) (Nat.zero_le _) (Nat.zero_le _) ?_
  obtain ⟨r4, hr4⟩ := bP_ex ho
  replace ho := bP_go ho hr4
  refine sh_4004 h21 hr4 ?_
  refine us_iret hR dX10_draftParts_15 rfl rfl ?_
  cases ho
  exact h _ _ rfl h21 hF1
def h_11009 (me : Nat) (x0 : Int32) (x1 : Int32) (x2 : Int32) (T : Tx) : Option (Tx × (Nat ⊕ Int32)) :=
  bXp T (h_11036 x0 T) fun r1 =>
  gd (tK T me = 12) <|
  bOv (h_11042 me T) fun T2 =>
  gd (tK T2 me = 12) <|
  bXp T2 (h_11043 me T2) fun r3 =>
  gd (tK T2 me = 12) <|
  bP (tW T2 me 7) fun r4 =>
  gd (tK T2 me = 12) <|
  bP (tW T2 me 1) fun r5 =>
  gd (tK T2 me = 12) <|
  bP (tW T2 me 5) fun r6 =>
  gd (tK T2 r4 = 4) <|
  bOv (h_3001 me r4 r5 r6 x0 x1 x2 T2) fun T7 =>
  gd (tK T7 me = 12) <|
  bP (tW T7 me 5) fun r8 =>
  gd (tK T7 r8 = 8) <|
  bP (h_7003 r8 T7) fun r9 =>
  some (T7, .inr r9)
theorem sh_11009 {F : Nat → Prop} {d : Nat} {G : ab_G} {T : Tx} {P : ab_Pq} {X : ab_Xq} (h2 : Rep2 F G T) {me : Nat} {x0 : Int32} {x1 : Int32} {x2 : Int32} {o : Tx × (Nat ⊕ Int32)} (ho : h_11009 me x0 x1 x2 T = some o) (h : ∀ G1 v, o.2 = .inr v → Rep2 F G1 o.1 → SameF F G G1 → P G1 (some (.int v))) (hX : ∀ G1 e, o.2 = .inl e → Rep2 F G1 o.1 → SameF F G G1 → X G1 (exn e)) : ab_Gam (d + 915) 11009 [.ref me, .int x0, .int x1, .int x2] G P X := by
  have hF : SameF F G G := SameF_rfl
  unfold h_11009 at ho
  refine ab_enter (I := i11009) rfl (Nat.le_of_ble_eq_true rfl) (fun R hR => ?_)
  change R _ _ _ _ 42 3712
  refine us_iload_n hR dX10_trial_0 rfl ?_
  refine us_callS hR dX10_trial_1 (y := 11036) (by decide +kernel) (by decide) (J := i11036) rfl rfl rfl rfl (rest := _) (Nat.le_of_ble_eq_true rfl) (Nat.le_of_ble_eq_true rfl) (Nat.le_of_ble_eq_true rfl) ?_
  obtain ⟨q1, hq1⟩ := bXp_ex ho
  rw [hq1] at ho
  refine sh_11036 h2 hq1 (fun r1 hr1 => ?_) (fun e1 hr1 => ?_)
  rotate_left
  · subst hr1
    cases ho
    exact ⟨rfl, hX _ _ rfl h2 hF⟩
  subst hr1
  rw [bXp_some] at ho
  change R _ _ _ _ 41 3706
  refine us_aload_n hR dX10_trial_4 rfl ?_
  have hg := gd_c ho
  rw [gd_e hg] at ho
  refine us_callV hR dX10_trial_5 (y := 11042) (by decide +kernel) (by decide) (J := i11042) rfl rfl rfl rfl (H_kind1 h2 hg (by decide)) rfl (Nat.le_of_ble_eq_true rfl) (Nat.le_of_ble_eq_true rfl) (Nat.le_of_ble_eq_true rfl) ?_
  obtain ⟨T2, hs2⟩ := bOv_ex ho
  replace ho := bOv_go ho hs2
  refine sh_11042 h2 hs2 (fun G2 h22 hF2 => ?_)
  have hF2 := hF.tr hF2
  change R _ _ _ _ 1 6
  refine us_aload_n hR dX10_trial_8 rfl ?_
  have hg := gd_c ho
  rw [gd_e hg] at ho
  refine us_callV hR dX10_trial_9 (y := 11043) (by decide +kernel) (by decide) (J := i11043) rfl rfl rfl rfl (H_kind1 h22 hg (by decide)) rfl (Nat.le_of_ble_eq_true rfl) (Nat.le_of_ble_eq_true rfl) (Nat.le_of_ble_eq_true rfl) ?_
  obtain ⟨q3, hq3⟩ := bXp_ex ho
  rw [hq3] at ho
  refine sh_11043 h22 hq3 (fun r3 hr3 => ?_) (fun e3 hr3 => ?_)
  rotate_left
  · subst hr3
    cases ho
    exact ⟨rfl, hX _ _ rfl h22 hF2⟩
  subst hr3
  rw [bXp_some] at ho
  change R _ _ _ _ 0 0
  refine us_aload_n hR dX10_trial_12 rfl ?_
  have hg := gd_c ho
  rw [gd_e hg] at ho
  obtain ⟨r4, hr4⟩ := bP_ex ho
  replace ho := bP_go ho hr4
  refine uh_getR h22 hg (by decide) hr4 hR dX10_trial_13 fR_11_49 rfl ?_
  refine us_aload_n hR dX10_trial_16 rfl ?_
  have hg := gd_c ho
  rw [gd_e hg] at ho
  obtain ⟨r5, hr5⟩ := bP_ex ho
  replace ho := bP_go ho hr5
  refine uh_getR h22 hg (by decide) hr5 hR dX10_trial_17 fR_11_21 rfl ?_
  refine us_aload_n hR dX10_trial_20 rfl ?_
  have hg := gd_c ho
  rw [gd_e hg] at ho
  obtain ⟨r6, hr6⟩ := bP_ex ho
  replace ho := bP_go ho hr6
  refine uh_getR h22 hg (by decide) hr6 hR dX10_trial_21 fR_11_37 rfl ?_
  refine us_iload_n hR dX10_trial_24 rfl ?_
  refine us_iload_n hR dX10_trial_25 rfl ?_
  refine us_iload_n hR dX10_trial_26 rfl ?_
  have hg := gd_c ho
  rw [gd_e hg] at ho
  refine us_callV hR dX10_trial_27 (y := 3001) (by decide +kernel) (by decide) (J := i3001) rfl rfl rfl rfl (H_kind1 h22 hg (by decide)) rfl (Nat.le_of_ble_eq_true rfl) (Nat.zero_le _) (Nat.zero_le _) ?_
  obtain ⟨T7, hs7⟩ := bOv_ex ho
  replace ho := bOv_go ho hs7
  refine sh_3001 h22 me hs7 (fun G7 h27 hF7 => ?_)
  have hF7 := hF2.tr hF7
  refine us_aload_n hR dX10_trial_30 rfl ?_
  have hg := gd_c ho
  rw [gd_e hg] at ho
  obtain ⟨r8, hr8⟩ := bP_ex ho
  replace ho := bP_go ho hr8
  refine uh_getR h27 hg (by decide) hr8 hR dX10_trial_31 fR_11_37 rfl ?_
  have hg := gd_c ho
  rw [gd_e hg] at ho
  refine us_callV hR dX10_trial_34 (y := 7003) (by decide +kernel) (by decide) (J := i7003) rfl rfl rfl rfl (H_kind1 h27 hg (by decide)) rfl (Nat.le_of_ble_eq_true rfl) (Nat.zero_le _) (Nat.zero_le _) ?_
  obtain ⟨r9, hr9⟩ := bP_ex ho
  replace ho := bP_go ho hr9
  refine sh_7003 h27 hr9 ?_
  refine us_iret hR dX10_trial_37 rfl rfl ?_
  cases ho
  exact h _ _ rfl h27 hF7
def h_11010 (me : Nat) (x0 : Int32) (x1 : Int32) (x2 : Int32) (T : Tx) : Option (Tx × (Nat ⊕ Int32)) :=
  bXp T (h_11036 x0 T) fun r1 =>
  gd (tK T me = 12) <|
  bOv (h_11042 me T) fun T2 =>
  gd (tK T2 me = 12) <|
  bXp T2 (h_11043 me T2) fun r3 =>
  gd (tK T2 me = 12) <|
  bP (tW T2 me 8) fun r4 =>
  gd (tK T2 me = 12) <|
  bP (tW T2 me 1) fun r5 =>
  gd (tK T2 me = 12) <|
  bP (tW T2 me 5) fun r6 =>
  gd (tK T2 r4 = 11) <|
  bOv (h_10001 me r4 r5 r6 x0 x1 x2 T2) fun T7 =>
  gd (tK T7 me = 12) <|
  bP (tW T7 me 5) fun r8 =>
  gd (tK T7 r8 = 8) <|
  bP (h_7003 r8 T7) fun r9 =>
  some (T7, .inr r9)
theorem sh_11010 {F : Nat → Prop} {d : Nat} {G : ab_G} {T : Tx} {P : ab_Pq} {X : ab_Xq} (h2 : Rep2 F G T) {me : Nat} {x0 : Int32} {x1 : Int32} {x2 : Int32} {o : Tx × (Nat ⊕ Int32)} (ho : h_11010 me x0 x1 x2 T = some o) (h : ∀ G1 v, o.2 = .inr v → Rep2 F G1 o.1 → SameF F G G1 → P G1 (some (.int v))) (hX : ∀ G1 e, o.2 = .inl e → Rep2 F G1 o.1 → SameF F G G1 → X G1 (exn e)) : ab_Gam (d + 915) 11010 [.ref me, .int x0, .int x1, .int x2] G P X := by
  have hF : SameF F G G := SameF_rfl
  unfold h_11010 at ho
  refine ab_enter (I := i11010) rfl (Nat.le_of_ble_eq_true rfl) (fun R hR => ?_)
  change R _ _ _ _ 42 3712
  refine us_iload_n hR dX10_trialByTree_0 rfl ?_
  refine us_callS hR dX10_trialByTree_1 (y := 11036) (by decide +kernel) (by decide) (J := i11036) rfl rfl rfl rfl (rest := _) (Nat.le_of_ble_eq_true rfl) (Nat.le_of_ble_eq_true rfl) (Nat.le_of_ble_eq_true rfl) ?_
  obtain ⟨q1, hq1⟩ := bXp_ex ho
  rw [hq1] at ho
  refine sh_11036 h2 hq1 (fun r1 hr1 => ?_) (fun e1 hr1 => ?_)
  rotate_left
  · subst hr1
    cases ho
    exact ⟨rfl, hX _ _ rfl h2 hF⟩
  subst hr1
  rw [bXp_some] at ho
  change R _ _ _ _ 41 3706
  refine us_aload_n hR dX10_trialByTree_4 rfl ?_
  have hg := gd_c ho
  rw [gd_e hg] at ho
  refine us_callV hR dX10_trialByTree_5 (y := 11042) (by decide +kernel) (by decide) (J := i11042) rfl rfl rfl rfl (H_kind1 h2 hg (by decide)) rfl (Nat.le_of_ble_eq_true rfl) (Nat.le_of_ble_eq_true rfl) (Nat.le_of_ble_eq_true rfl) ?_
  obtain ⟨T2, hs2⟩ := bOv_ex ho
  replace ho := bOv_go ho hs2
  refine sh_11042 h2 hs2 (fun G2 h22 hF2 => ?_)
  have hF2 := hF.tr hF2
  change R _ _ _ _ 1 6
  refine us_aload_n hR dX10_trialByTree_8 rfl ?_
  have hg := gd_c ho
  rw [gd_e hg] at ho
  refine us_callV hR dX10_trialByTree_9 (y := 11043) (by decide +kernel) (by decide) (J := i11043) rfl rfl rfl rfl (H_kind1 h22 hg (by decide)) rfl (Nat.le_of_ble_eq_true rfl) (Nat.le_of_ble_eq_true rfl) (Nat.le_of_ble_eq_true rfl) ?_
  obtain ⟨q3, hq3⟩ := bXp_ex ho
  rw [hq3] at ho
  refine sh_11043 h22 hq3 (fun r3 hr3 => ?_) (fun e3 hr3 => ?_)
  rotate_left
  · subst hr3
    cases ho
    exact ⟨rfl, hX _ _ rfl h22 hF2⟩
  subst hr3
  rw [bXp_some] at ho
  change R _ _ _ _ 0 0
  refine us_aload_n hR dX10_trialByTree_12 rfl ?_
  have hg := gd_c ho
  rw [gd_e hg] at ho
  obtain ⟨r4, hr4⟩ := bP_ex ho
  replace ho := bP_go ho hr4
  refine uh_getR h22 hg (by decide) hr4 hR dX10_trialByTree_13 fR_11_56 rfl ?_
  refine us_aload_n hR dX10_trialByTree_16 rfl ?_
  have hg := gd_c ho
  rw [gd_e hg] at ho
  obtain ⟨r5, hr5⟩ := bP_ex ho
  replace ho := bP_go ho hr5
  refine uh_getR h22 hg (by decide) hr5 hR dX10_trialByTree_17 fR_11_21 rfl ?_
  refine us_aload_n hR dX10_trialByTree_20 rfl ?_
  have hg := gd_c ho
  rw [gd_e hg] at ho
  obtain ⟨r6, hr6⟩ := bP_ex ho
  replace ho := bP_go ho hr6
  refine uh_getR h22 hg (by decide) hr6 hR dX10_trialByTree_21 fR_11_37 rfl ?_
  refine us_iload_n hR dX10_trialByTree_24 rfl ?_
  refine us_iload_n hR dX10_trialByTree_25 rfl ?_
  refine us_iload_n hR dX10_trialByTree_26 rfl ?_
  have hg := gd_c ho
  rw [gd_e hg] at ho
  refine us_callV hR dX10_trialByTree_27 (y := 10001) (by decide +kernel) (by decide) (J := i10001) rfl rfl rfl rfl (H_kind1 h22 hg (by decide)) rfl (Nat.le_of_ble_eq_true rfl) (Nat.zero_le _) (Nat.zero_le _) ?_
  obtain ⟨T7, hs7⟩ := bOv_ex ho
  replace ho := bOv_go ho hs7
  refine sh_10001 h22 me hs7 (fun G7 h27 hF7 => ?_)
  have hF7 := hF2.tr hF7
  refine us_aload_n hR dX10_trialByTree_30 rfl ?_
  have hg := gd_c ho
  rw [gd_e hg] at ho
  obtain ⟨r8, hr8⟩ := bP_ex ho
  replace ho := bP_go ho hr8
  refine uh_getR h27 hg (by decide) hr8 hR dX10_trialByTree_31 fR_11_37 rfl ?_
  have hg := gd_c ho
  rw [gd_e hg] at ho
  refine us_callV hR dX10_trialByTree_34 (y := 7003) (by decide +kernel) (by decide) (J := i7003) rfl rfl rfl rfl (H_kind1 h27 hg (by decide)) rfl (Nat.le_of_ble_eq_true rfl) (Nat.zero_le _) (Nat.zero_le _) ?_
  obtain ⟨r9, hr9⟩ := bP_ex ho
  replace ho := bP_go ho hr9
  refine sh_7003 h27 hr9 ?_
  refine us_iret hR dX10_trialByTree_37 rfl rfl ?_
  cases ho
  exact h _ _ rfl h27 hF7
def h_11011 (me : Nat) (T : Tx) : Option Int32 :=
  gd (tK T me = 12) <|
  bP (tW T me 5) fun r1 =>
  gd (tK T r1 = 8) <|
  bP (h_7005 r1 T) fun r2 =>
  some r2
theorem sh_11011 {F : Nat → Prop} {d : Nat} {G : ab_G} {T : Tx} {P : ab_Pq} {X : ab_Xq} (h2 : Rep2 F G T) {me : Nat} {o : Int32} (ho : h_11011 me T = some o) (h : P G (some (.int o))) : ab_Gam (d + 3) 11011 [.ref me] G P X := by
  have hF : SameF F G G := SameF_rfl
  unfold h_11011 at ho
  refine ab_enter (I := i11011) rfl (Nat.le_of_ble_eq_true rfl) (fun R hR => ?_)
  refine us_aload_n hR dX10_outputs_0 rfl ?_
  have hg := gd_c ho
  rw [gd_e hg] at ho
  obtain ⟨r1, hr1⟩ := bP_ex ho
  replace ho := bP_go ho hr1
  refine uh_getR h2 hg (by decide) hr1 hR dX10_outputs_1 fR_11_37 rfl ?_
  have hg := gd_c ho
  rw [gd_e hg] at ho
  refine us_callV hR dX10_outputs_4 (y := 7005) (by decide +kernel) (by decide) (J := i7005) rfl rfl rfl rfl (H_kind1 h2 hg (by decide)) rfl (Nat.le_of_ble_eq_true rfl) (Nat.zero_le _) (Nat.zero_le _) ?_
  obtain ⟨r2, hr2⟩ := bP_ex ho
  replace ho := bP_go ho hr2
  refine sh_7005 h2 hr2 ?_
  refine us_iret hR dX10_outputs_7 rfl rfl ?_
  cases ho
  exact h
def h_11012 (me : Nat) (x0 : Int32) (T : Tx) : Option (Nat ⊕ Int32) :=
  if x0 < 0 then
    some (.inl 2)
  else
    gd (tK T me = 12) <|
    bP (tW T me 5) fun r2 =>
    gd (tK T r2 = 8) <|
    bP (h_7005 r2 T) fun r3 =>
    if x0 < r3 then
      gd (tK T me = 12) <|
      bP (tW T me 5) fun r5 =>
      gd (tK T r5 = 8) <|
      bP (h_7006 r5 x0 T) fun r6 =>
      some (.inr r6)
    else
      some (.inl 2)
theorem sh_11012 {F : Nat → Prop} {d : Nat} {G : ab_G} {T : Tx} {P : ab_Pq} {X : ab_Xq} (h2 : Rep2 F G T) {me : Nat} {x0 : Int32} {o : (Nat ⊕ Int32)} (ho : h_11012 me x0 T = some o) (h : ∀ v, o = .inr v → P G (some (.int v))) (hX : ∀ e, o = .inl e → X G (exn e)) : ab_Gam (d + 10) 11012 [.ref me, .int x0] G P X := by
  have hF : SameF F G G := SameF_rfl
  unfold h_11012 at ho
  refine ab_enter (I := i11012) rfl (Nat.le_of_ble_eq_true rfl) (fun R hR => ?_)
  change R _ _ _ _ 1 6
  refine us_iload_n hR dX10_outputAt_0 rfl ?_
  refine us_if_lt hR dX10_outputAt_1 15 (by decide) (fun c1 => ?_) (fun c1 => ?_)
  · rw [if_pos c1] at ho
    change R _ _ _ _ 1 6
    refine us_throw (E := "java/lang/IndexOutOfBoundsException") (t := "no such output") hR dX10_outputAt_15 (by decide +kernel) (by decide +kernel) dX10_outputAt_18 rfl dX10_outputAt_19 (by decide +kernel) dX10_outputAt_21 dX10_outputAt_24 (by omega) (Nat.le_of_ble_eq_true rfl) (Nat.le_of_ble_eq_true rfl) (Nat.le_of_ble_eq_true rfl) ?_
    cases ho
    exact hX _ rfl
  · rw [if_neg c1] at ho
    change R _ _ _ _ 1 6
    refine us_iload_n hR dX10_outputAt_4 rfl ?_
    refine us_aload_n hR dX10_outputAt_5 rfl ?_
    have hg := gd_c ho
    rw [gd_e hg] at ho
    obtain ⟨r2, hr2⟩ := bP_ex ho
    replace ho := bP_go ho hr2
    refine uh_getR h2 hg (by decide) hr2 hR dX10_outputAt_6 fR_11_37 rfl ?_
    have hg := gd_c ho
    rw [gd_e hg] at ho
    refine us_callV hR dX10_outputAt_9 (y := 7005) (by decide +kernel) (by decide) (J := i7005) rfl rfl rfl rfl (H_kind1 h2 hg (by decide)) rfl (Nat.le_of_ble_eq_true rfl) (Nat.zero_le _) (Nat.zero_le _) ?_
    obtain ⟨r3, hr3⟩ := bP_ex ho
    replace ho := bP_go ho hr3
    refine sh_7005 h2 hr3 ?_
    refine us_icmp_lt hR dX10_outputAt_12 25 (by decide) (fun c4 => ?_) (fun c4 => ?_)
    · rw [if_pos c4] at ho
      change R _ _ _ _ 1 6
      refine us_aload_n hR dX10_outputAt_25 rfl ?_
      have hg := gd_c ho
      rw [gd_e hg] at ho
      obtain ⟨r5, hr5⟩ := bP_ex ho
      replace ho := bP_go ho hr5
      refine uh_getR h2 hg (by decide) hr5 hR dX10_outputAt_26 fR_11_37 rfl ?_
      refine us_iload_n hR dX10_outputAt_29 rfl ?_
      have hg := gd_c ho
      rw [gd_e hg] at ho
      refine us_callV hR dX10_outputAt_30 (y := 7006) (by decide +kernel) (by decide) (J := i7006) rfl rfl rfl rfl (H_kind1 h2 hg (by decide)) rfl (Nat.le_of_ble_eq_true rfl) (Nat.zero_le _) (Nat.zero_le _) ?_
      obtain ⟨r6, hr6⟩ := bP_ex ho
      replace ho := bP_go ho hr6
      refine sh_7006 h2 hr6 ?_
      refine us_iret hR dX10_outputAt_33 rfl rfl ?_
      cases ho
      exact h _ rfl
    · rw [if_neg c4] at ho
      change R _ _ _ _ 1 6
      refine us_throw (E := "java/lang/IndexOutOfBoundsException") (t := "no such output") hR dX10_outputAt_15 (by decide +kernel) (by decide +kernel) dX10_outputAt_18 rfl dX10_outputAt_19 (by decide +kernel) dX10_outputAt_21 dX10_outputAt_24 (by omega) (Nat.le_of_ble_eq_true rfl) (Nat.le_of_ble_eq_true rfl) (Nat.le_of_ble_eq_true rfl) ?_
      cases ho
      exact hX _ rfl
def h_11013 (me : Nat) (T : Tx) : Option Int32 :=
  gd (tK T me = 12) <|
  bP (tW T me 5) fun r1 =>
  gd (tK T r1 = 8) <|
  bP (h_7004 r1 T) fun r2 =>
  some r2
theorem sh_11013 {F : Nat → Prop} {d : Nat} {G : ab_G} {T : Tx} {P : ab_Pq} {X : ab_Xq} (h2 : Rep2 F G T) {me : Nat} {o : Int32} (ho : h_11013 me T = some o) (h : P G (some (.int o))) : ab_Gam (d + 2) 11013 [.ref me] G P X := by
  have hF : SameF F G G := SameF_rfl
  unfold h_11013 at ho
  refine ab_enter (I := i11013) rfl (Nat.le_of_ble_eq_true rfl) (fun R hR => ?_)
  refine us_aload_n hR dX10_fuelLeft_0 rfl ?_
  have hg := gd_c ho
  rw [gd_e hg] at ho
  obtain ⟨r1, hr1⟩ := bP_ex ho
  replace ho := bP_go ho hr1
  refine uh_getR h2 hg (by decide) hr1 hR dX10_fuelLeft_1 fR_11_37 rfl ?_
  have hg := gd_c ho
  rw [gd_e hg] at ho
  refine us_callV hR dX10_fuelLeft_4 (y := 7004) (by decide +kernel) (by decide) (J := i7004) rfl rfl rfl rfl (H_kind1 h2 hg (by decide)) rfl (Nat.le_of_ble_eq_true rfl) (Nat.zero_le _) (Nat.zero_le _) ?_
  obtain ⟨r2, hr2⟩ := bP_ex ho
  replace ho := bP_go ho hr2
  refine sh_7004 h2 hr2 ?_
  refine us_iret hR dX10_fuelLeft_7 rfl rfl ?_
  cases ho
  exact h
def h_11014 (me : Nat) (x0 : Int32) (T : Tx) : Option (Nat ⊕ Int32) :=
  if x0 < 0 then
    some (.inl 2)
  else
    if x0 < 32 then
      gd (tK T me = 12) <|
      bP (tW T me 5) fun r3 =>
      gd (tK T r3 = 8) <|
      bP (h_7007 r3 x0 T) fun r4 =>
      some (.inr r4)
    else
      some (.inl 2)
theorem sh_11014 {F : Nat → Prop} {d : Nat} {G : ab_G} {T : Tx} {P : ab_Pq} {X : ab_Xq} (h2 : Rep2 F G T) {me : Nat} {x0 : Int32} {o : (Nat ⊕ Int32)} (ho : h_11014 me x0 T = some o) (h : ∀ v, o = .inr v → P G (some (.int v))) (hX : ∀ e, o = .inl e → X G (exn e)) : ab_Gam (d + 10) 11014 [.ref me, .int x0] G P X := by
  have hF : SameF F G G := SameF_rfl
  unfold h_11014 at ho
  refine ab_enter (I := i11014) rfl (Nat.le_of_ble_eq_true rfl) (fun R hR => ?_)
  change R _ _ _ _ 1 6
  refine us_iload_n hR dX10_cellAt_0 rfl ?_
  refine us_if_lt hR dX10_cellAt_1 10 (by decide) (fun c1 => ?_) (fun c1 => ?_)
  · rw [if_pos c1] at ho
    change R _ _ _ _ 1 6
    refine us_throw (E := "java/lang/IndexOutOfBoundsException") (t := "no such cell") hR dX10_cellAt_10 (by decide +kernel) (by decide +kernel) dX10_cellAt_13 rfl dX10_cellAt_14 (by decide +kernel) dX10_cellAt_16 dX10_cellAt_19 (by omega) (Nat.le_of_ble_eq_true rfl) (Nat.le_of_ble_eq_true rfl) (Nat.le_of_ble_eq_true rfl) ?_
    cases ho
    exact hX _ rfl
  · rw [if_neg c1] at ho
    change R _ _ _ _ 1 6
    refine us_iload_n hR dX10_cellAt_4 rfl ?_
    refine us_bipushC hR dX10_cellAt_5 (c := 32) (by decide) ?_
    refine us_icmp_lt hR dX10_cellAt_7 20 (by decide) (fun c2 => ?_) (fun c2 => ?_)
    · rw [if_pos c2] at ho
      change R _ _ _ _ 1 6
      refine us_aload_n hR dX10_cellAt_20 rfl ?_
      have hg := gd_c ho
      rw [gd_e hg] at ho
      obtain ⟨r3, hr3⟩ := bP_ex ho
      replace ho := bP_go ho hr3
      refine uh_getR h2 hg (by decide) hr3 hR dX10_cellAt_21 fR_11_37 rfl ?_
      refine us_iload_n hR dX10_cellAt_24 rfl ?_
      have hg := gd_c ho
      rw [gd_e hg] at ho
      refine us_callV hR dX10_cellAt_25 (y := 7007) (by decide +kernel) (by decide) (J := i7007) rfl rfl rfl rfl (H_kind1 h2 hg (by decide)) rfl (Nat.le_of_ble_eq_true rfl) (Nat.zero_le _) (Nat.zero_le _) ?_
      obtain ⟨r4, hr4⟩ := bP_ex ho
      replace ho := bP_go ho hr4
      refine sh_7007 h2 hr4 ?_
      refine us_iret hR dX10_cellAt_28 rfl rfl ?_
      cases ho
      exact h _ rfl
    · rw [if_neg c2] at ho
      change R _ _ _ _ 1 6
      refine us_throw (E := "java/lang/IndexOutOfBoundsException") (t := "no such cell") hR dX10_cellAt_10 (by decide +kernel) (by decide +kernel) dX10_cellAt_13 rfl dX10_cellAt_14 (by decide +kernel) dX10_cellAt_16 dX10_cellAt_19 (by omega) (Nat.le_of_ble_eq_true rfl) (Nat.le_of_ble_eq_true rfl) (Nat.le_of_ble_eq_true rfl) ?_
      cases ho
      exact hX _ rfl
def h_11015 (me : Nat) (x0 : Int32) (x1 : Int32) (T : Tx) : Option (Tx × (Nat ⊕ Int32)) :=
  if x0 < 1 then
    some (T, .inl 1)
  else
    if 2000 < x0 then
      some (T, .inl 1)
    else
      gd (tK T me = 12) <|
      if x1 < (tV T me 13) then
        some (T, .inl 1)
      else
        if x1 ≤ 1000 then
          gd (tK T me = 12) <|
          bP (tW T me 9) fun r5 =>
          gd (tK T r5 = 1) <|
          if (nI (tA T r5).length) < 4 then
            gd (tK T me = 12) <|
            bP (tW T me 9) fun r8 =>
            bS (tNew T 3) fun T9 =>
            gd (tK T9 me = 12) <|
            bP (tW T9 me 9) fun r10 =>
            gd (tK T9 r10 = 1) <|
            gd (tK T9 (tZ T) = 3) <|
            bOv (h_2000 (tZ T) (nI (tA T9 r10).length) x0 x1 T9) fun T12 =>
            gd (tK T12 r8 = 1) <|
            gd ((tA T12 r8).length ≤ 32 ∧ tK T12 (tZ T) ≠ 0) <|
            bS (tAdd T12 r8 (tZ T)) fun T13 =>
            gd (tK T13 me = 12) <|
            bP (tW T13 me 9) fun r14 =>
            gd (tK T13 r14 = 1) <|
            some (T13, .inr ((nI (tA T13 r14).length) - 1))
          else
            some (T, .inl 3)
        else
          some (T, .inl 1)
theorem sh_11015 {F : Nat → Prop} {d : Nat} {G : ab_G} {T : Tx} {P : ab_Pq} {X : ab_Xq} (h2 : Rep2 F G T) {me : Nat} {x0 : Int32} {x1 : Int32} {o : Tx × (Nat ⊕ Int32)} (ho : h_11015 me x0 x1 T = some o) (h : ∀ G1 v, o.2 = .inr v → Rep2 F G1 o.1 → SameF F G G1 → P G1 (some (.int v))) (hX : ∀ G1 e, o.2 = .inl e → Rep2 F G1 o.1 → SameF F G G1 → X G1 (exn e)) : ab_Gam (d + 43) 11015 [.ref me, .int x0, .int x1] G P X := by
  have hF : SameF F G G := SameF_rfl
  unfold h_11015 at ho
  refine ab_enter (I := i11015) rfl (Nat.le_of_ble_eq_true rfl) (fun R hR => ?_)
  change R _ _ _ _ 6 80
  refine us_iload_n hR dX10_addExercise_0 rfl ?_
  refine us_iconstC hR dX10_addExercise_1 (c := 1) (by decide) ?_
  refine us_icmp_lt hR dX10_addExercise_2 27 (by decide) (fun c1 => ?_) (fun c1 => ?_)
  · rw [if_pos c1] at ho
    change R _ _ _ _ 6 80
    refine us_throw (E := "java/lang/IllegalArgumentException") (t := "fuel or due is out of range") hR dX10_addExercise_27 (by decide +kernel) (by decide +kernel) dX10_addExercise_30 rfl dX10_addExercise_31 (by decide +kernel) dX10_addExercise_33 dX10_addExercise_36 (by omega) (Nat.le_of_ble_eq_true rfl) (Nat.le_of_ble_eq_true rfl) (Nat.le_of_ble_eq_true rfl) ?_
    cases ho
    exact hX _ _ rfl h2 hF
  · rw [if_neg c1] at ho
    change R _ _ _ _ 6 80
    refine us_iload_n hR dX10_addExercise_5 rfl ?_
    refine us_sipushC hR dX10_addExercise_6 (c := 2000) (by decide) ?_
    refine us_icmp_gt hR dX10_addExercise_9 27 (by decide) (fun c2 => ?_) (fun c2 => ?_)
    · rw [if_pos c2] at ho
      change R _ _ _ _ 6 80
      refine us_throw (E := "java/lang/IllegalArgumentException") (t := "fuel or due is out of range") hR dX10_addExercise_27 (by decide +kernel) (by decide +kernel) dX10_addExercise_30 rfl dX10_addExercise_31 (by decide +kernel) dX10_addExercise_33 dX10_addExercise_36 (by omega) (Nat.le_of_ble_eq_true rfl) (Nat.le_of_ble_eq_true rfl) (Nat.le_of_ble_eq_true rfl) ?_
      cases ho
      exact hX _ _ rfl h2 hF
    · rw [if_neg c2] at ho
      change R _ _ _ _ 6 80
      refine us_iload_n hR dX10_addExercise_12 rfl ?_
      refine us_aload_n hR dX10_addExercise_13 rfl ?_
      have hg := gd_c ho
      rw [gd_e hg] at ho
      refine uh_getI (ci := 11) (f := 13) h2 hg (by decide) hR dX10_addExercise_14 fR_11_167 rfl ?_
      refine us_icmp_lt hR dX10_addExercise_17 27 (by decide) (fun c3 => ?_) (fun c3 => ?_)
      · rw [if_pos c3] at ho
        change R _ _ _ _ 6 80
        refine us_throw (E := "java/lang/IllegalArgumentException") (t := "fuel or due is out of range") hR dX10_addExercise_27 (by decide +kernel) (by decide +kernel) dX10_addExercise_30 rfl dX10_addExercise_31 (by decide +kernel) dX10_addExercise_33 dX10_addExercise_36 (by omega) (Nat.le_of_ble_eq_true rfl) (Nat.le_of_ble_eq_true rfl) (Nat.le_of_ble_eq_true rfl) ?_
        cases ho
        exact hX _ _ rfl h2 hF
      · rw [if_neg c3] at ho
        change R _ _ _ _ 6 80
        refine us_iload_n hR dX10_addExercise_20 rfl ?_
        refine us_sipushC hR dX10_addExercise_21 (c := 1000) (by decide) ?_
        refine us_icmp_le hR dX10_addExercise_24 37 (by decide) (fun c4 => ?_) (fun c4 => ?_)
        · rw [if_pos c4] at ho
          change R _ _ _ _ 6 80
          refine us_aload_n hR dX10_addExercise_37 rfl ?_
          have hg := gd_c ho
          rw [gd_e hg] at ho
          obtain ⟨r5, hr5⟩ := bP_ex ho
          replace ho := bP_go ho hr5
          refine uh_getR h2 hg (by decide) hr5 hR dX10_addExercise_38 fR_11_63 rfl ?_
          have hg := gd_c ho
          rw [gd_e hg] at ho
          refine us_pri5 hR dX10_addExercise_41 (by decide +kernel) rfl (H_lst0 h2 hg) rfl (Nat.le_of_ble_eq_true rfl) (Nat.zero_le _) (Nat.zero_le _) ?_
          refine hl_size h2 hg ?_
          refine us_iconstC hR dX10_addExercise_44 (c := 4) (by decide) ?_
          refine us_icmp_lt hR dX10_addExercise_45 58 (by decide) (fun c7 => ?_) (fun c7 => ?_)
          · rw [if_pos c7] at ho
            change R _ _ _ _ 6 80
            refine us_aload_n hR dX10_addExercise_58 rfl ?_
            have hg := gd_c ho
            rw [gd_e hg] at ho
            obtain ⟨r8, hr8⟩ := bP_ex ho
            replace ho := bP_go ho hr8
            refine uh_getR h2 hg (by decide) hr8 hR dX10_addExercise_59 fR_11_63 rfl ?_
            refine uh_new (ci := 2) 3 h2 (by decide) hR dX10_addExercise_62 (by decide +kernel) (by decide) (Nat.le_of_ble_eq_true rfl) (Nat.le_of_ble_eq_true rfl) (fun G9 T9 hs9 h29 hF9 => ?_)
            rw [← hs9, bS_eq] at ho
            have hF9 := hF.tr hF9
            change R _ _ _ _ 5 76
            refine us_dup hR dX10_addExercise_65 rfl ?_
            refine us_aload_n hR dX10_addExercise_66 rfl ?_
            have hg := gd_c ho
            rw [gd_e hg] at ho
            obtain ⟨r10, hr10⟩ := bP_ex ho
            replace ho := bP_go ho hr10
            refine uh_getR h29 hg (by decide) hr10 hR dX10_addExercise_67 fR_11_63 rfl ?_
            have hg := gd_c ho
            rw [gd_e hg] at ho
            refine us_pri5 hR dX10_addExercise_70 (by decide +kernel) rfl (H_lst0 h29 hg) rfl (Nat.le_of_ble_eq_true rfl) (Nat.zero_le _) (Nat.zero_le _) ?_
            refine hl_size h29 hg ?_
            refine us_iload_n hR dX10_addExercise_73 rfl ?_
            refine us_iload_n hR dX10_addExercise_74 rfl ?_
            have hg := gd_c ho
            rw [gd_e hg] at ho
            refine us_callI hR dX10_addExercise_75 (y := 2000) (by decide +kernel) (by decide) (J := i2000) rfl rfl rfl rfl (H_kind1 h29 hg (by decide)) rfl (Nat.le_of_ble_eq_true rfl) (Nat.le_of_ble_eq_true rfl) (Nat.le_of_ble_eq_true rfl) ?_
            obtain ⟨T12, hs12⟩ := bOv_ex ho
            replace ho := bOv_go ho hs12
            refine sh_2000 h29 hs12 (fun G12 h212 hF12 => ?_)
            have hF12 := hF9.tr hF12
            change R _ _ _ _ 4 73
            have hg := gd_c ho
            rw [gd_e hg] at ho
            have hk := hg
            have hg := gd_c ho
            rw [gd_e hg] at ho
            refine us_pri7 hR dX10_addExercise_78 (by decide +kernel) rfl (H_lst0 h212 hk) rfl (Nat.le_of_ble_eq_true rfl) (Nat.le_of_ble_eq_true rfl) (Nat.le_of_ble_eq_true rfl) ?_
            refine hl_add h212 hk hg.1 hg.2 (fun G13 T13 hs13 h213 hF13 => ?_)
            rw [← hs13, bS_eq] at ho
            have hF13 := hF12.tr hF13
            change R _ _ _ _ 3 33
            refine us_pop hR dX10_addExercise_81 rfl ?_
            refine us_aload_n hR dX10_addExercise_82 rfl ?_
            have hg := gd_c ho
            rw [gd_e hg] at ho
            obtain ⟨r14, hr14⟩ := bP_ex ho
            replace ho := bP_go ho hr14
            refine uh_getR h213 hg (by decide) hr14 hR dX10_addExercise_83 fR_11_63 rfl ?_
            have hg := gd_c ho
            rw [gd_e hg] at ho
            refine us_pri5 hR dX10_addExercise_86 (by decide +kernel) rfl (H_lst0 h213 hg) rfl (Nat.le_of_ble_eq_true rfl) (Nat.zero_le _) (Nat.zero_le _) ?_
            refine hl_size h213 hg ?_
            refine us_iconstC hR dX10_addExercise_89 (c := 1) (by decide) ?_
            refine us_isub hR dX10_addExercise_90 ?_
            refine us_iret hR dX10_addExercise_91 rfl rfl ?_
            cases ho
            exact h _ _ rfl h213 hF13
          · rw [if_neg c7] at ho
            change R _ _ _ _ 6 80
            refine us_throw (E := "java/lang/IllegalStateException") (t := "there is no room for an exercise") hR dX10_addExercise_48 (by decide +kernel) (by decide +kernel) dX10_addExercise_51 rfl dX10_addExercise_52 (by decide +kernel) dX10_addExercise_54 dX10_addExercise_57 (by omega) (Nat.le_of_ble_eq_true rfl) (Nat.le_of_ble_eq_true rfl) (Nat.le_of_ble_eq_true rfl) ?_
            cases ho
            exact hX _ _ rfl h2 hF
        · rw [if_neg c4] at ho
          change R _ _ _ _ 6 80
          refine us_throw (E := "java/lang/IllegalArgumentException") (t := "fuel or due is out of range") hR dX10_addExercise_27 (by decide +kernel) (by decide +kernel) dX10_addExercise_30 rfl dX10_addExercise_31 (by decide +kernel) dX10_addExercise_33 dX10_addExercise_36 (by omega) (Nat.le_of_ble_eq_true rfl) (Nat.le_of_ble_eq_true rfl) (Nat.le_of_ble_eq_true rfl) ?_
          cases ho
          exact hX _ _ rfl h2 hF
end
