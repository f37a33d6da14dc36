/-! shadows: the reference -/
def f_12049  (s : Mx) : Option (Mx × Int32) :=
  if (mf s 5) = 2 then
    bP (f_12030 (mf s 6) ((mf s 7) - (mf s 6)) s) fun r2 =>
    if r2 = (-1) then
      gd (vi (mf s 22) 40) <|
      bS (ms s 12 (mf s 22) (mf s 6)) fun s4 =>
      gd (vi (mf s4 22) 40) <|
      bS (ms s4 13 (mf s4 22) ((mf s4 7) - (mf s4 6))) fun s5 =>
      gd (vi (mf s5 22) 40) <|
      bS (ms s5 14 (mf s5 22) 0) fun s6 =>
      bO (f_12021 14 0 s6) fun s7 r7 =>
      gd (vi 0 10) <|
      bS (ms s7 24 0 r7) fun s8 =>
      gd (vi (mf s8 22) 40) <|
      bS (ms s8 15 (mf s8 22) (mf s8 11)) fun s9 =>
      bS (mp s9 22 ((mf s9 22) + 1)) fun s10 =>
      bS (mp s10 34 1) fun s11 =>
      gd (vi 1 2) <|
      bS (ms s11 9 1 0) fun s12 =>
      bO (f_12022 3 9 s12) fun s13 r13 =>
      some (s13, r13)
    else
      bT (f_12020 6 s) fun s14 r14 =>
      some (s14, r14)
  else
    bT (f_12020 3 s) fun s15 r15 =>
    some (s15, r15)
theorem sp_12049 {d : Nat} {G : ab_G} {ad : Nat → Nat} {I : Nat → Nat → Int32} {s : Mx} {P : ab_Pq} {X : ab_Xq} (hE : EM G ad) (hP : RepM I ad s)   {o : Mx × Int32} (ho : f_12049 s = some o) (h : ∀ I1, (o.2 = 0 ∨ o.2 = 1) → RepM I1 ad o.1 → FrM ad I I1 → P (gW G I1) (some (.int o.2))) : ab_Gam (d + 3) 12049 [.ref (ad 0)] (gW G I) P X := by
  have h2 := h
  have hF : FrM ad I I := FrM_rfl
  unfold f_12049 at ho
  refine ab_enter (I := i12049) rfl (Nat.le_of_ble_eq_true rfl) (fun R hR => ?_)
  refine us_aload_n hR dX11_defWord_0 rfl ?_
  refine us_getIx hR dX11_defWord_1 fR_12_240 hE.2.1 rfl (RepM_f hP 5) ?_
  refine us_iconstC hR dX11_defWord_4 (c := 2) (by decide) ?_
  refine us_icmp_eq hR dX11_defWord_5 14 (by decide) (fun c1 => ?_) (fun c1 => ?_)
  · rw [if_pos c1] at ho
    refine us_aload_n hR dX11_defWord_14 rfl ?_
    refine us_aload_n hR dX11_defWord_15 rfl ?_
    refine us_getIx hR dX11_defWord_16 fR_12_219 hE.2.1 rfl (RepM_f hP 6) ?_
    refine us_aload_n hR dX11_defWord_19 rfl ?_
    refine us_getIx hR dX11_defWord_20 fR_12_199 hE.2.1 rfl (RepM_f hP 7) ?_
    refine us_aload_n hR dX11_defWord_23 rfl ?_
    refine us_getIx hR dX11_defWord_24 fR_12_219 hE.2.1 rfl (RepM_f hP 6) ?_
    refine us_isub hR dX11_defWord_27 ?_
    refine us_callV hR dX11_defWord_28 (y := 12030) (by decide +kernel) (by decide) (J := i12030) rfl rfl rfl rfl hE.2.1 rfl (Nat.le_of_ble_eq_true rfl) (Nat.zero_le _) (Nat.zero_le _) ?_
    obtain ⟨r2, hr2⟩ := bP_ex ho
    replace ho := bP_go ho hr2
    refine sp_12030 hE hP  hr2 ?_
    refine us_iconstC hR dX11_defWord_31 (c := (-1)) (by decide) ?_
    refine us_icmp_eq hR dX11_defWord_32 42 (by decide) (fun c3 => ?_) (fun c3 => ?_)
    · rw [if_pos c3] at ho
      refine us_aload_n hR dX11_defWord_42 rfl ?_
      refine us_getR hR dX11_defWord_43 fR_12_44 hE.2.1 rfl (em_r_23 hE) ?_
      refine us_aload_n hR dX11_defWord_46 rfl ?_
      refine us_getIx hR dX11_defWord_47 fR_12_295 hE.2.1 rfl (RepM_f hP 22) ?_
      refine us_aload_n hR dX11_defWord_50 rfl ?_
      refine us_getIx hR dX11_defWord_51 fR_12_219 hE.2.1 rfl (RepM_f hP 6) ?_
      have hg := gd_c ho
      rw [gd_e hg] at ho
      refine us_iastoreM hE hP (em_q_23 hE) hR dX11_defWord_54 hg (fun I4 s4 hs4 hP4 hF4 => ?_)
      rw [← hs4, bS_eq] at ho
      have hF4 := hF.tr hF4
      refine us_aload_n hR dX11_defWord_55 rfl ?_
      refine us_getR hR dX11_defWord_56 fR_12_47 hE.2.1 rfl (em_r_24 hE) ?_
      refine us_aload_n hR dX11_defWord_59 rfl ?_
      refine us_getIx hR dX11_defWord_60 fR_12_295 hE.2.1 rfl (RepM_f hP4 22) ?_
      refine us_aload_n hR dX11_defWord_63 rfl ?_
      refine us_getIx hR dX11_defWord_64 fR_12_199 hE.2.1 rfl (RepM_f hP4 7) ?_
      refine us_aload_n hR dX11_defWord_67 rfl ?_
      refine us_getIx hR dX11_defWord_68 fR_12_219 hE.2.1 rfl (RepM_f hP4 6) ?_
      refine us_isub hR dX11_defWord_71 ?_
      have hg := gd_c ho
      rw [gd_e hg] at ho
      refine us_iastoreM hE hP4 (em_q_24 hE) hR dX11_defWord_72 hg (fun I5 s5 hs5 hP5 hF5 => ?_)
      rw [← hs5, bS_eq] at ho
      have hF5 := hF4.tr hF5
      refine us_aload_n hR dX11_defWord_73 rfl ?_
      refine us_getR hR dX11_defWord_74 fR_12_50 hE.2.1 rfl (em_r_25 hE) ?_
      refine us_aload_n hR dX11_defWord_77 rfl ?_
      refine us_getIx hR dX11_defWord_78 fR_12_295 hE.2.1 rfl (RepM_f hP5 22) ?_
      refine us_iconstC hR dX11_defWord_81 (c := 0) (by decide) ?_
      have hg := gd_c ho
      rw [gd_e hg] at ho
      refine us_iastoreM hE hP5 (em_q_25 hE) hR dX11_defWord_82 hg (fun I6 s6 hs6 hP6 hF6 => ?_)
      rw [← hs6, bS_eq] at ho
      have hF6 := hF5.tr hF6
      refine us_aload_n hR dX11_defWord_83 rfl ?_
      refine us_getR hR dX11_defWord_84 fR_12_80 hE.2.1 rfl (em_r_41 hE) ?_
      refine us_iconstC hR dX11_defWord_87 (c := 0) (by decide) ?_
      refine us_aload_n hR dX11_defWord_88 rfl ?_
      refine us_bipushC hR dX11_defWord_89 (c := 14) (by decide) ?_
      refine us_iconstC hR dX11_defWord_91 (c := 0) (by decide) ?_
      refine us_callV hR dX11_defWord_92 (y := 12021) (by decide +kernel) (by decide) (J := i12021) rfl rfl rfl rfl hE.2.1 rfl (Nat.le_of_ble_eq_true rfl) (Nat.zero_le _) (Nat.zero_le _) ?_
      obtain ⟨q7, hs7⟩ := bO_ex ho
      obtain ⟨s7, r7⟩ := q7
      replace ho := bO_go ho hs7
      refine sp_12021 hE hP6  hs7 (fun I7 hP7 hF7 => ?_)
      have hF7 := hF6.tr hF7
      have hg := gd_c ho
      rw [gd_e hg] at ho
      refine us_iastoreM hE hP7 (em_q_41 hE) hR dX11_defWord_95 hg (fun I8 s8 hs8 hP8 hF8 => ?_)
      rw [← hs8, bS_eq] at ho
      have hF8 := hF7.tr hF8
      refine us_aload_n hR dX11_defWord_96 rfl ?_
      refine us_getR hR dX11_defWord_97 fR_12_53 hE.2.1 rfl (em_r_26 hE) ?_
      refine us_aload_n hR dX11_defWord_100 rfl ?_
      refine us_getIx hR dX11_defWord_101 fR_12_295 hE.2.1 rfl (RepM_f hP8 22) ?_
      refine us_aload_n hR dX11_defWord_104 rfl ?_
      refine us_getIx hR dX11_defWord_105 fR_12_260 hE.2.1 rfl (RepM_f hP8 11) ?_
      have hg := gd_c ho
      rw [gd_e hg] at ho
      refine us_iastoreM hE hP8 (em_q_26 hE) hR dX11_defWord_108 hg (fun I9 s9 hs9 hP9 hF9 => ?_)
      rw [← hs9, bS_eq] at ho
      have hF9 := hF8.tr hF9
      refine us_aload_n hR dX11_defWord_109 rfl ?_
      refine us_dup hR dX11_defWord_110 rfl ?_
      refine us_getIx hR dX11_defWord_111 fR_12_295 hE.2.1 rfl (RepM_f hP9 22) ?_
      refine us_iconstC hR dX11_defWord_114 (c := 1) (by decide) ?_
      refine us_iadd hR dX11_defWord_115 ?_
      refine us_putIM hE hP9 22 hR dX11_defWord_116 fR_12_295 (Or.inl rfl) rfl rfl (fun I10 s10 hs10 hP10 hF10 => ?_)
      rw [← hs10, bS_eq] at ho
      have hF10 := hF9.tr hF10
      refine us_aload_n hR dX11_defWord_119 rfl ?_
      refine us_iconstC hR dX11_defWord_120 (c := 1) (by decide) ?_
      refine us_putIM hE hP10 34 hR dX11_defWord_121 fR_12_285 (Or.inl rfl) rfl rfl (fun I11 s11 hs11 hP11 hF11 => ?_)
      rw [← hs11, bS_eq] at ho
      have hF11 := hF10.tr hF11
      refine us_aload_n hR dX11_defWord_124 rfl ?_
      refine us_getR hR dX11_defWord_125 fR_12_35 hE.2.1 rfl (em_r_19 hE) ?_
      refine us_iconstC hR dX11_defWord_128 (c := 1) (by decide) ?_
      refine us_iconstC hR dX11_defWord_129 (c := 0) (by decide) ?_
      have hg := gd_c ho
      rw [gd_e hg] at ho
      refine us_iastoreM hE hP11 (em_q_19 hE) hR dX11_defWord_130 hg (fun I12 s12 hs12 hP12 hF12 => ?_)
      rw [← hs12, bS_eq] at ho
      have hF12 := hF11.tr hF12
      refine us_aload_n hR dX11_defWord_131 rfl ?_
      refine us_iconstC hR dX11_defWord_132 (c := 3) (by decide) ?_
      refine us_bipushC hR dX11_defWord_133 (c := 9) (by decide) ?_
      refine us_callV hR dX11_defWord_135 (y := 12022) (by decide +kernel) (by decide) (J := i12022) rfl rfl rfl rfl hE.2.1 rfl (Nat.le_of_ble_eq_true rfl) (Nat.zero_le _) (Nat.zero_le _) ?_
      obtain ⟨q13, hs13⟩ := bO_ex ho
      obtain ⟨s13, r13⟩ := q13
      replace ho := bO_go ho hs13
      refine sp_12022 hE hP12  hs13 (fun I13 hb13 hP13 hF13 => ?_)
      have hF13 := hF12.tr hF13
      refine us_iret hR dX11_defWord_138 rfl (nar01 hb13) ?_
      cases ho
      exact h2 _ hb13 hP13 hF13
    · rw [if_neg c3] at ho
      refine us_aload_n hR dX11_defWord_35 rfl ?_
      refine us_bipushC hR dX11_defWord_36 (c := 6) (by decide) ?_
      refine us_callV hR dX11_defWord_38 (y := 12020) (by decide +kernel) (by decide) (J := i12020) rfl rfl rfl rfl hE.2.1 rfl (Nat.le_of_ble_eq_true rfl) (Nat.zero_le _) (Nat.zero_le _) ?_
      refine sp_12020 hE hP  (fun I14 q14 hs14 hb14 hP14 hF14 => ?_)
      rw [← hs14] at ho
      obtain ⟨s14, r14⟩ := q14
      rw [bT_eq] at ho
      have hF14 := hF.tr hF14
      refine us_iret hR dX11_defWord_41 rfl (nar01 hb14) ?_
      cases ho
      exact h2 _ hb14 hP14 hF14
  · rw [if_neg c1] at ho
    refine us_aload_n hR dX11_defWord_8 rfl ?_
    refine us_iconstC hR dX11_defWord_9 (c := 3) (by decide) ?_
    refine us_callV hR dX11_defWord_10 (y := 12020) (by decide +kernel) (by decide) (J := i12020) rfl rfl rfl rfl hE.2.1 rfl (Nat.le_of_ble_eq_true rfl) (Nat.zero_le _) (Nat.zero_le _) ?_
    refine sp_12020 hE hP  (fun I15 q15 hs15 hb15 hP15 hF15 => ?_)
    rw [← hs15] at ho
    obtain ⟨s15, r15⟩ := q15
    rw [bT_eq] at ho
    have hF15 := hF.tr hF15
    refine us_iret hR dX11_defWord_13 rfl (nar01 hb15) ?_
    cases ho
    exact h2 _ hb15 hP15 hF15
def f_12050_J37   (s : Mx) : Option (Mx × Int32) :=
  if (mf s 5) = 2 then
    bP (f_12028 s) fun r2 =>
    if r2 = (-1) then
      bO (f_12029 s) fun s4 r4 =>
      if r4 = (-1) then
        bT (f_12020 5 s4) fun s8 r8 =>
        some (s8, r8)
      else
        gd (vi ((mf s4 22) - 1) 40) <|
        gd (vi ((mf s4 22) - 1) 40) <|
        bS (ms s4 14 ((mf s4 22) - 1) ((mg s4 14 ((mf s4 22) - 1)) + 1)) fun s6 =>
        bO (f_12022 2 12 s6) fun s7 r7 =>
        some (s7, r7)
    else
      bT (f_12020 6 s) fun s9 r9 =>
      some (s9, r9)
  else
    bT (f_12020 3 s) fun s10 r10 =>
    some (s10, r10)
def f_12050  (s : Mx) : Option (Mx × Int32) :=
  if (mf s 5) = 27 then
    if (mf s 32) = 10 then
      bS (mp s 33 ((mf s 33) - 1)) fun s13 =>
      bO (f_12022 27 7 s13) fun s14 r14 =>
      some (s14, r14)
    else
      f_12050_J37  s
  else
    f_12050_J37  s
theorem sp_12050 {d : Nat} {G : ab_G} {ad : Nat → Nat} {I : Nat → Nat → Int32} {s : Mx} {P : ab_Pq} {X : ab_Xq} (hE : EM G ad) (hP : RepM I ad s)   {o : Mx × Int32} (ho : f_12050 s = some o) (h : ∀ I1, (o.2 = 0 ∨ o.2 = 1) → RepM I1 ad o.1 → FrM ad I I1 → P (gW G I1) (some (.int o.2))) : ab_Gam (d + 4) 12050 [.ref (ad 0)] (gW G I) P X := by
  have h2 := h
  have hF : FrM ad I I := FrM_rfl
  unfold f_12050 at ho
  refine ab_enter (I := i12050) rfl (Nat.le_of_ble_eq_true rfl) (fun R hR => ?_)
  have h12050_J37 : ∀   (s : Mx) (Ia : Nat → Nat → Int32) (bc bs : Nat) (hPa : RepM Ia ad s) (hFa : FrM ad I Ia) (ho : f_12050_J37  s = some o), R 37 [some (.ref (ad 0))] [] (gW G Ia) bc bs := by
    intro   s Ia bc bs  hPa hFa ho
    unfold f_12050_J37 at ho
    refine us_aload_n hR dX11_parameter_37 rfl ?_
    refine us_getIx hR dX11_parameter_38 fR_12_240 hE.2.1 rfl (RepM_f hPa 5) ?_
    refine us_iconstC hR dX11_parameter_41 (c := 2) (by decide) ?_
    refine us_icmp_eq hR dX11_parameter_42 51 (by decide) (fun c1 => ?_) (fun c1 => ?_)
    · rw [if_pos c1] at ho
      refine us_aload_n hR dX11_parameter_51 rfl ?_
      refine us_callV hR dX11_parameter_52 (y := 12028) (by decide +kernel) (by decide) (J := i12028) rfl rfl rfl rfl hE.2.1 rfl (Nat.le_of_ble_eq_true rfl) (Nat.zero_le _) (Nat.zero_le _) ?_
      obtain ⟨r2, hr2⟩ := bP_ex ho
      replace ho := bP_go ho hr2
      refine sp_12028 hE hPa  hr2 ?_
      refine us_iconstC hR dX11_parameter_55 (c := (-1)) (by decide) ?_
      refine us_icmp_eq hR dX11_parameter_56 66 (by decide) (fun c3 => ?_) (fun c3 => ?_)
      · rw [if_pos c3] at ho
        refine us_aload_n hR dX11_parameter_66 rfl ?_
        refine us_callV hR dX11_parameter_67 (y := 12029) (by decide +kernel) (by decide) (J := i12029) rfl rfl rfl rfl hE.2.1 rfl (Nat.le_of_ble_eq_true rfl) (Nat.zero_le _) (Nat.zero_le _) ?_
        obtain ⟨q4, hs4⟩ := bO_ex ho
        obtain ⟨s4, r4⟩ := q4
        replace ho := bO_go ho hs4
        refine sp_12029 hE hPa  hs4 (fun I4 hP4 hF4 => ?_)
        have hF4 := hFa.tr hF4
        refine us_iconstC hR dX11_parameter_70 (c := (-1)) (by decide) ?_
        refine us_icmp_ne hR dX11_parameter_71 80 (by decide) (fun c5 => ?_) (fun c5 => ?_)
        · rw [if_neg c5] at ho
          refine us_aload_n hR dX11_parameter_80 rfl ?_
          refine us_getR hR dX11_parameter_81 fR_12_50 hE.2.1 rfl (em_r_25 hE) ?_
          refine us_aload_n hR dX11_parameter_84 rfl ?_
          refine us_getIx hR dX11_parameter_85 fR_12_295 hE.2.1 rfl (RepM_f hP4 22) ?_
          refine us_iconstC hR dX11_parameter_88 (c := 1) (by decide) ?_
          refine us_isub hR dX11_parameter_89 ?_
          refine us_dup2 hR dX11_parameter_90 rfl rfl ?_
          have hg := gd_c ho
          rw [gd_e hg] at ho
          refine us_ialoadM hE hP4 (em_q_25 hE) hR dX11_parameter_91 hg ?_
          refine us_iconstC hR dX11_parameter_92 (c := 1) (by decide) ?_
          refine us_iadd hR dX11_parameter_93 ?_
          have hg := gd_c ho
          rw [gd_e hg] at ho
          refine us_iastoreM hE hP4 (em_q_25 hE) hR dX11_parameter_94 hg (fun I6 s6 hs6 hP6 hF6 => ?_)
          rw [← hs6, bS_eq] at ho
          have hF6 := hF4.tr hF6
          refine us_aload_n hR dX11_parameter_95 rfl ?_
          refine us_iconstC hR dX11_parameter_96 (c := 2) (by decide) ?_
          refine us_bipushC hR dX11_parameter_97 (c := 12) (by decide) ?_
          refine us_callV hR dX11_parameter_99 (y := 12022) (by decide +kernel) (by decide) (J := i12022) rfl rfl rfl rfl hE.2.1 rfl (Nat.le_of_ble_eq_true rfl) (Nat.zero_le _) (Nat.zero_le _) ?_
          obtain ⟨q7, hs7⟩ := bO_ex ho
          obtain ⟨s7, r7⟩ := q7
          replace ho := bO_go ho hs7
          refine sp_12022 hE hP6  hs7 (fun I7 hb7 hP7 hF7 => ?_)
          have hF7 := hF6.tr hF7
          refine us_iret hR dX11_parameter_102 rfl (nar01 hb7) ?_
          cases ho
          exact h2 _ hb7 hP7 hF7
        · rw [if_pos c5] at ho
          refine us_aload_n hR dX11_parameter_74 rfl ?_
          refine us_iconstC hR dX11_parameter_75 (c := 5) (by decide) ?_
          refine us_callV hR dX11_parameter_76 (y := 12020) (by decide +kernel) (by decide) (J := i12020) rfl rfl rfl rfl hE.2.1 rfl (Nat.le_of_ble_eq_true rfl) (Nat.zero_le _) (Nat.zero_le _) ?_
          refine sp_12020 hE hP4  (fun I8 q8 hs8 hb8 hP8 hF8 => ?_)
          rw [← hs8] at ho
          obtain ⟨s8, r8⟩ := q8
          rw [bT_eq] at ho
          have hF8 := hF4.tr hF8
          refine us_iret hR dX11_parameter_79 rfl (nar01 hb8) ?_
          cases ho
          exact h2 _ hb8 hP8 hF8
      · rw [if_neg c3] at ho
        refine us_aload_n hR dX11_parameter_59 rfl ?_
        refine us_bipushC hR dX11_parameter_60 (c := 6) (by decide) ?_
        refine us_callV hR dX11_parameter_62 (y := 12020) (by decide +kernel) (by decide) (J := i12020) rfl rfl rfl rfl hE.2.1 rfl (Nat.le_of_ble_eq_true rfl) (Nat.zero_le _) (Nat.zero_le _) ?_
        refine sp_12020 hE hPa  (fun I9 q9 hs9 hb9 hP9 hF9 => ?_)
        rw [← hs9] at ho
        obtain ⟨s9, r9⟩ := q9
        rw [bT_eq] at ho
        have hF9 := hFa.tr hF9
        refine us_iret hR dX11_parameter_65 rfl (nar01 hb9) ?_
        cases ho
        exact h2 _ hb9 hP9 hF9
    · rw [if_neg c1] at ho
      refine us_aload_n hR dX11_parameter_45 rfl ?_
      refine us_iconstC hR dX11_parameter_46 (c := 3) (by decide) ?_
      refine us_callV hR dX11_parameter_47 (y := 12020) (by decide +kernel) (by decide) (J := i12020) rfl rfl rfl rfl hE.2.1 rfl (Nat.le_of_ble_eq_true rfl) (Nat.zero_le _) (Nat.zero_le _) ?_
      refine sp_12020 hE hPa  (fun I10 q10 hs10 hb10 hP10 hF10 => ?_)
      rw [← hs10] at ho
      obtain ⟨s10, r10⟩ := q10
      rw [bT_eq] at ho
      have hF10 := hFa.tr hF10
      refine us_iret hR dX11_parameter_50 rfl (nar01 hb10) ?_
      cases ho
      exact h2 _ hb10 hP10 hF10
  refine us_aload_n hR dX11_parameter_0 rfl ?_
  refine us_getIx hR dX11_parameter_1 fR_12_240 hE.2.1 rfl (RepM_f hP 5) ?_
  refine us_bipushC hR dX11_parameter_4 (c := 27) (by decide) ?_
  refine us_icmp_ne hR dX11_parameter_6 37 (by decide) (fun c11 => ?_) (fun c11 => ?_)
  · rw [if_neg c11] at ho
    exact h12050_J37   s I _ _ hP hF ho
  · rw [if_pos c11] at ho
    refine us_aload_n hR dX11_parameter_9 rfl ?_
    refine us_getIx hR dX11_parameter_10 fR_12_266 hE.2.1 rfl (RepM_f hP 32) ?_
    refine us_bipushC hR dX11_parameter_13 (c := 10) (by decide) ?_
    refine us_icmp_ne hR dX11_parameter_15 37 (by decide) (fun c12 => ?_) (fun c12 => ?_)
    · rw [if_neg c12] at ho
      exact h12050_J37   s I _ _ hP hF ho
    · rw [if_pos c12] at ho
      refine us_aload_n hR dX11_parameter_18 rfl ?_
      refine us_dup hR dX11_parameter_19 rfl ?_
      refine us_getIx hR dX11_parameter_20 fR_12_278 hE.2.1 rfl (RepM_f hP 33) ?_
      refine us_iconstC hR dX11_parameter_23 (c := 1) (by decide) ?_
      refine us_isub hR dX11_parameter_24 ?_
      refine us_putIM hE hP 33 hR dX11_parameter_25 fR_12_278 (Or.inl rfl) rfl rfl (fun I13 s13 hs13 hP13 hF13 => ?_)
      rw [← hs13, bS_eq] at ho
      have hF13 := hF.tr hF13
      refine us_aload_n hR dX11_parameter_28 rfl ?_
      refine us_bipushC hR dX11_parameter_29 (c := 27) (by decide) ?_
      refine us_bipushC hR dX11_parameter_31 (c := 7) (by decide) ?_
      refine us_callV hR dX11_parameter_33 (y := 12022) (by decide +kernel) (by decide) (J := i12022) rfl rfl rfl rfl hE.2.1 rfl (Nat.le_of_ble_eq_true rfl) (Nat.zero_le _) (Nat.zero_le _) ?_
      obtain ⟨q14, hs14⟩ := bO_ex ho
      obtain ⟨s14, r14⟩ := q14
      replace ho := bO_go ho hs14
      refine sp_12022 hE hP13  hs14 (fun I14 hb14 hP14 hF14 => ?_)
      have hF14 := hF13.tr hF14
      refine us_iret hR dX11_parameter_36 rfl (nar01 hb14) ?_
      cases ho
      exact h2 _ hb14 hP14 hF14
def f_12051_J37  (k0 : Int32) (k1 : Int32) (s : Mx) : Option (Mx × Int32) :=
  bS (mp s 33 (k1 - k0)) fun s1 =>
  if (mf s1 5) = 27 then
    bO (f_12022 27 7 s1) fun s4 r4 =>
    some (s4, r4)
  else
    bT (f_12020 3 s1) fun s3 r3 =>
    some (s3, r3)
def f_12051  (s : Mx) : Option (Mx × Int32) :=
  if (mf s 5) = 30 then
    bO (f_12022 30 11 s) fun s7 r7 =>
    some (s7, r7)
  else
    if (mf s 5) = 27 then
      f_12051_J37 1 (mf s 33) s
    else
      f_12051_J37 0 (mf s 33) s
theorem sp_12051 {d : Nat} {G : ab_G} {ad : Nat → Nat} {I : Nat → Nat → Int32} {s : Mx} {P : ab_Pq} {X : ab_Xq} (hE : EM G ad) (hP : RepM I ad s)   {o : Mx × Int32} (ho : f_12051 s = some o) (h : ∀ I1, (o.2 = 0 ∨ o.2 = 1) → RepM I1 ad o.1 → FrM ad I I1 → P (gW G I1) (some (.int o.2))) : ab_Gam (d + 2) 12051 [.ref (ad 0)] (gW G I) P X := by
  have h2 := h
  have hF : FrM ad I I := FrM_rfl
  unfold f_12051 at ho
  refine ab_enter (I := i12051) rfl (Nat.le_of_ble_eq_true rfl) (fun R hR => ?_)
  have h12051_J37 : ∀ (k0 : Int32) (k1 : Int32)  (s : Mx) (Ia : Nat → Nat → Int32) (bc bs : Nat) (hPa : RepM Ia ad s) (hFa : FrM ad I Ia) (ho : f_12051_J37 k0 k1 s = some o), R 37 [some (.ref (ad 0))] [.int k0, .int k1, .ref (ad 0)] (gW G Ia) bc bs := by
    intro k0 k1  s Ia bc bs  hPa hFa ho
    unfold f_12051_J37 at ho
    refine us_isub hR dX11_parameterNext_37 ?_
    refine us_putIM hE hPa 33 hR dX11_parameterNext_38 fR_12_278 (Or.inl rfl) rfl rfl (fun I1 s1 hs1 hP1 hF1 => ?_)
    rw [← hs1, bS_eq] at ho
    have hF1 := hFa.tr hF1
    refine us_aload_n hR dX11_parameterNext_41 rfl ?_
    refine us_getIx hR dX11_parameterNext_42 fR_12_240 hE.2.1 rfl (RepM_f hP1 5) ?_
    refine us_bipushC hR dX11_parameterNext_45 (c := 27) (by decide) ?_
    refine us_icmp_ne hR dX11_parameterNext_47 61 (by decide) (fun c2 => ?_) (fun c2 => ?_)
    · rw [if_neg c2] at ho
      refine us_aload_n hR dX11_parameterNext_61 rfl ?_
      refine us_iconstC hR dX11_parameterNext_62 (c := 3) (by decide) ?_
      refine us_callV hR dX11_parameterNext_63 (y := 12020) (by decide +kernel) (by decide) (J := i12020) rfl rfl rfl rfl hE.2.1 rfl (Nat.le_of_ble_eq_true rfl) (Nat.zero_le _) (Nat.zero_le _) ?_
      refine sp_12020 hE hP1  (fun I3 q3 hs3 hb3 hP3 hF3 => ?_)
      rw [← hs3] at ho
      obtain ⟨s3, r3⟩ := q3
      rw [bT_eq] at ho
      have hF3 := hF1.tr hF3
      refine us_iret hR dX11_parameterNext_66 rfl (nar01 hb3) ?_
      cases ho
      exact h2 _ hb3 hP3 hF3
    · rw [if_pos c2] at ho
      refine us_aload_n hR dX11_parameterNext_50 rfl ?_
      refine us_bipushC hR dX11_parameterNext_51 (c := 27) (by decide) ?_
      refine us_bipushC hR dX11_parameterNext_53 (c := 7) (by decide) ?_
      refine us_callV hR dX11_parameterNext_55 (y := 12022) (by decide +kernel) (by decide) (J := i12022) rfl rfl rfl rfl hE.2.1 rfl (Nat.le_of_ble_eq_true rfl) (Nat.zero_le _) (Nat.zero_le _) ?_
      obtain ⟨q4, hs4⟩ := bO_ex ho
      obtain ⟨s4, r4⟩ := q4
      replace ho := bO_go ho hs4
      refine sp_12022 hE hP1  hs4 (fun I4 hb4 hP4 hF4 => ?_)
      have hF4 := hF1.tr hF4
      refine us_goto hR dX11_parameterNext_58 66 (by decide) ?_
      refine us_iret hR dX11_parameterNext_66 rfl (nar01 hb4) ?_
      cases ho
      exact h2 _ hb4 hP4 hF4
  refine us_aload_n hR dX11_parameterNext_0 rfl ?_
  refine us_getIx hR dX11_parameterNext_1 fR_12_240 hE.2.1 rfl (RepM_f hP 5) ?_
  refine us_bipushC hR dX11_parameterNext_4 (c := 30) (by decide) ?_
  refine us_icmp_ne hR dX11_parameterNext_6 18 (by decide) (fun c5 => ?_) (fun c5 => ?_)
  · rw [if_neg c5] at ho
    refine us_aload_n hR dX11_parameterNext_18 rfl ?_
    refine us_dup hR dX11_parameterNext_19 rfl ?_
    refine us_getIx hR dX11_parameterNext_20 fR_12_278 hE.2.1 rfl (RepM_f hP 33) ?_
    refine us_aload_n hR dX11_parameterNext_23 rfl ?_
    refine us_getIx hR dX11_parameterNext_24 fR_12_240 hE.2.1 rfl (RepM_f hP 5) ?_
    refine us_bipushC hR dX11_parameterNext_27 (c := 27) (by decide) ?_
    refine us_icmp_ne hR dX11_parameterNext_29 36 (by decide) (fun c6 => ?_) (fun c6 => ?_)
    · rw [if_neg c6] at ho
      refine us_iconstC hR dX11_parameterNext_36 (c := 0) (by decide) ?_
      exact h12051_J37 0 (mf s 33)  s I _ _ hP hF ho
    · rw [if_pos c6] at ho
      refine us_iconstC hR dX11_parameterNext_32 (c := 1) (by decide) ?_
      refine us_goto hR dX11_parameterNext_33 37 (by decide) ?_
      exact h12051_J37 1 (mf s 33)  s I _ _ hP hF ho
  · rw [if_pos c5] at ho
    refine us_aload_n hR dX11_parameterNext_9 rfl ?_
    refine us_bipushC hR dX11_parameterNext_10 (c := 30) (by decide) ?_
    refine us_bipushC hR dX11_parameterNext_12 (c := 11) (by decide) ?_
    refine us_callV hR dX11_parameterNext_14 (y := 12022) (by decide +kernel) (by decide) (J := i12022) rfl rfl rfl rfl hE.2.1 rfl (Nat.le_of_ble_eq_true rfl) (Nat.zero_le _) (Nat.zero_le _) ?_
    obtain ⟨q7, hs7⟩ := bO_ex ho
    obtain ⟨s7, r7⟩ := q7
    replace ho := bO_go ho hs7
    refine sp_12022 hE hP  hs7 (fun I7 hb7 hP7 hF7 => ?_)
    have hF7 := hF.tr hF7
    refine us_iret hR dX11_parameterNext_17 rfl (nar01 hb7) ?_
    cases ho
    exact h2 _ hb7 hP7 hF7
def f_12052_J67  (l1 : Int32) (k0 : Int32) (k1 : Int32) (s : Mx) : Option (Mx × Int32) :=
  gd (vi (mf s 38) 10) <|
  bO (f_12037 k1 k0 (mg s 24 (mf s 38)) 0 s) fun s1 r1 =>
  some (s1, r1)
def f_12052_J47  (l1 : Int32) (k0 : Int32) (s : Mx) : Option (Mx × Int32) :=
  if l1 = 0 then
    f_12052_J67 l1 (mf s 43) k0 s
  else
    gd (vi (mf s 38) 10) <|
    f_12052_J67 l1 (mg s 23 (mf s 38)) k0 s
def f_12052_J35  (k0 : Int32) (s : Mx) : Option (Mx × Int32) :=
  if k0 = 0 then
    f_12052_J47 k0 9 s
  else
    f_12052_J47 k0 5 s
def f_12052  (s : Mx) : Option (Mx × Int32) :=
  if (mf s 5) = 28 then
    gd (vi ((mf s 14) - 1) 301) <|
    if (mg s 6 ((mf s 14) - 1)) = 5 then
      f_12052_J35 1 s
    else
      f_12052_J35 0 s
  else
    bT (f_12020 3 s) fun s6 r6 =>
    some (s6, r6)
theorem sp_12052 {d : Nat} {G : ab_G} {ad : Nat → Nat} {I : Nat → Nat → Int32} {s : Mx} {P : ab_Pq} {X : ab_Xq} (hE : EM G ad) (hP : RepM I ad s)   {o : Mx × Int32} (ho : f_12052 s = some o) (h : ∀ I1, (o.2 = 0 ∨ o.2 = 1) → RepM I1 ad o.1 → FrM ad I I1 → P (gW G I1) (some (.int o.2))) : ab_Gam (d + 4) 12052 [.ref (ad 0)] (gW G I) P X := by
  have h2 := h
  have hF : FrM ad I I := FrM_rfl
  unfold f_12052 at ho
  refine ab_enter (I := i12052) rfl (Nat.le_of_ble_eq_true rfl) (fun R hR => ?_)
  have h12052_J67 : ∀ (l1 : Int32) (k0 : Int32) (k1 : Int32)  (s : Mx) (Ia : Nat → Nat → Int32) (bc bs : Nat) (hPa : RepM Ia ad s) (hFa : FrM ad I Ia) (ho : f_12052_J67 l1 k0 k1 s = some o), R 67 [some (.ref (ad 0)), some (.int l1)] [.int k0, .int k1, .ref (ad 0)] (gW G Ia) bc bs := by
    intro l1 k0 k1  s Ia bc bs  hPa hFa ho
    unfold f_12052_J67 at ho
    refine us_aload_n hR dX11_block_67 rfl ?_
    refine us_getR hR dX11_block_68 fR_12_80 hE.2.1 rfl (em_r_41 hE) ?_
    refine us_aload_n hR dX11_block_71 rfl ?_
    refine us_getIx hR dX11_block_72 fR_12_326 hE.2.1 rfl (RepM_f hPa 38) ?_
    have hg := gd_c ho
    rw [gd_e hg] at ho
    refine us_ialoadM hE hPa (em_q_41 hE) hR dX11_block_75 hg ?_
    refine us_iconstC hR dX11_block_76 (c := 0) (by decide) ?_
    refine us_callV hR dX11_block_77 (y := 12037) (by decide +kernel) (by decide) (J := i12037) rfl rfl rfl rfl hE.2.1 rfl (Nat.le_of_ble_eq_true rfl) (Nat.zero_le _) (Nat.zero_le _) ?_
    obtain ⟨q1, hs1⟩ := bO_ex ho
    obtain ⟨s1, r1⟩ := q1
    replace ho := bO_go ho hs1
    refine sp_12037 hE hPa  hs1 (fun I1 hb1 hP1 hF1 => ?_)
    have hF1 := hFa.tr hF1
    refine us_iret hR dX11_block_80 rfl (nar01 hb1) ?_
    cases ho
    exact h2 _ hb1 hP1 hF1
  have h12052_J47 : ∀ (l1 : Int32) (k0 : Int32)  (s : Mx) (Ia : Nat → Nat → Int32) (bc bs : Nat) (hPa : RepM Ia ad s) (hFa : FrM ad I Ia) (ho : f_12052_J47 l1 k0 s = some o), R 47 [some (.ref (ad 0)), some (.int l1)] [.int k0, .ref (ad 0)] (gW G Ia) bc bs := by
    intro l1 k0  s Ia bc bs  hPa hFa ho
    unfold f_12052_J47 at ho
    refine us_iload_n hR dX11_block_47 rfl ?_
    refine us_if_eq hR dX11_block_48 63 (by decide) (fun c2 => ?_) (fun c2 => ?_)
    · rw [if_pos c2] at ho
      refine us_aload_n hR dX11_block_63 rfl ?_
      refine us_getIx hR dX11_block_64 fR_12_272 hE.2.1 rfl (RepM_f hPa 43) ?_
      exact h12052_J67 l1 (mf s 43) k0  s Ia _ _ hPa hFa ho
    · rw [if_neg c2] at ho
      refine us_aload_n hR dX11_block_51 rfl ?_
      refine us_getR hR dX11_block_52 fR_12_77 hE.2.1 rfl (em_r_40 hE) ?_
      refine us_aload_n hR dX11_block_55 rfl ?_
      refine us_getIx hR dX11_block_56 fR_12_326 hE.2.1 rfl (RepM_f hPa 38) ?_
      have hg := gd_c ho
      rw [gd_e hg] at ho
      refine us_ialoadM hE hPa (em_q_40 hE) hR dX11_block_59 hg ?_
      refine us_goto hR dX11_block_60 67 (by decide) ?_
      exact h12052_J67 l1 (mg s 23 (mf s 38)) k0  s Ia _ _ hPa hFa ho
  have h12052_J35 : ∀ (k0 : Int32)  (s : Mx) (Ia : Nat → Nat → Int32) (bc bs : Nat) (hPa : RepM Ia ad s) (hFa : FrM ad I Ia) (ho : f_12052_J35 k0 s = some o), R 35 [some (.ref (ad 0)), none] [.int k0] (gW G Ia) bc bs := by
    intro k0  s Ia bc bs  hPa hFa ho
    unfold f_12052_J35 at ho
    refine us_istore_n hR dX11_block_35 (Nat.le_of_ble_eq_true rfl) ?_
    refine us_aload_n hR dX11_block_36 rfl ?_
    refine us_iload_n hR dX11_block_37 rfl ?_
    refine us_if_eq hR dX11_block_38 45 (by decide) (fun c3 => ?_) (fun c3 => ?_)
    · rw [if_pos c3] at ho
      refine us_bipushC hR dX11_block_45 (c := 9) (by decide) ?_
      exact h12052_J47 k0 9  s Ia _ _ hPa hFa ho
    · rw [if_neg c3] at ho
      refine us_iconstC hR dX11_block_41 (c := 5) (by decide) ?_
      refine us_goto hR dX11_block_42 47 (by decide) ?_
      exact h12052_J47 k0 5  s Ia _ _ hPa hFa ho
  refine us_aload_n hR dX11_block_0 rfl ?_
  refine us_getIx hR dX11_block_1 fR_12_240 hE.2.1 rfl (RepM_f hP 5) ?_
  refine us_bipushC hR dX11_block_4 (c := 28) (by decide) ?_
  refine us_icmp_eq hR dX11_block_6 15 (by decide) (fun c4 => ?_) (fun c4 => ?_)
  · rw [if_pos c4] at ho
    refine us_aload_n hR dX11_block_15 rfl ?_
    refine us_getR hR dX11_block_16 fR_12_26 hE.2.1 rfl (em_r_15 hE) ?_
    refine us_aload_n hR dX11_block_19 rfl ?_
    refine us_getIx hR dX11_block_20 fR_12_263 hE.2.1 rfl (RepM_f hP 14) ?_
    refine us_iconstC hR dX11_block_23 (c := 1) (by decide) ?_
    refine us_isub hR dX11_block_24 ?_
    have hg := gd_c ho
    rw [gd_e hg] at ho
    refine us_ialoadM hE hP (em_q_15 hE) hR dX11_block_25 hg ?_
    refine us_iconstC hR dX11_block_26 (c := 5) (by decide) ?_
    refine us_icmp_ne hR dX11_block_27 34 (by decide) (fun c5 => ?_) (fun c5 => ?_)
    · rw [if_neg c5] at ho
      refine us_iconstC hR dX11_block_34 (c := 0) (by decide) ?_
      exact h12052_J35 0  s I _ _ hP hF ho
    · rw [if_pos c5] at ho
      refine us_iconstC hR dX11_block_30 (c := 1) (by decide) ?_
      refine us_goto hR dX11_block_31 35 (by decide) ?_
      exact h12052_J35 1  s I _ _ hP hF ho
  · rw [if_neg c4] at ho
    refine us_aload_n hR dX11_block_9 rfl ?_
    refine us_iconstC hR dX11_block_10 (c := 3) (by decide) ?_
    refine us_callV hR dX11_block_11 (y := 12020) (by decide +kernel) (by decide) (J := i12020) rfl rfl rfl rfl hE.2.1 rfl (Nat.le_of_ble_eq_true rfl) (Nat.zero_le _) (Nat.zero_le _) ?_
    refine sp_12020 hE hP  (fun I6 q6 hs6 hb6 hP6 hF6 => ?_)
    rw [← hs6] at ho
    obtain ⟨s6, r6⟩ := q6
    rw [bT_eq] at ho
    have hF6 := hF.tr hF6
    refine us_iret hR dX11_block_14 rfl (nar01 hb6) ?_
    cases ho
    exact h2 _ hb6 hP6 hF6
def f_12053 (x0 : Int32) (x1 : Int32) (s : Mx) : Option (Mx × Int32) :=
  if (mf s 5) = x0 then
    bO (f_12022 x0 x1 s) fun s3 r3 =>
    some (s3, r3)
  else
    bT (f_12020 3 s) fun s2 r2 =>
    some (s2, r2)
theorem sp_12053 {d : Nat} {G : ab_G} {ad : Nat → Nat} {I : Nat → Nat → Int32} {s : Mx} {P : ab_Pq} {X : ab_Xq} (hE : EM G ad) (hP : RepM I ad s) {x0 : Int32} {x1 : Int32}  {o : Mx × Int32} (ho : f_12053 x0 x1 s = some o) (h : ∀ I1, (o.2 = 0 ∨ o.2 = 1) → RepM I1 ad o.1 → FrM ad I I1 → P (gW G I1) (some (.int o.2))) : ab_Gam (d + 2) 12053 [.ref (ad 0), .int x0, .int x1] (gW G I) P X := by
  have h2 := h
  have hF : FrM ad I I := FrM_rfl
  unfold f_12053 at ho
  refine ab_enter (I := i12053) rfl (Nat.le_of_ble_eq_true rfl) (fun R hR => ?_)
  refine us_aload_n hR dX11_sets_0 rfl ?_
  refine us_getIx hR dX11_sets_1 fR_12_240 hE.2.1 rfl (RepM_f hP 5) ?_
  refine us_iload_n hR dX11_sets_4 rfl ?_
  refine us_icmp_ne hR dX11_sets_5 17 (by decide) (fun c1 => ?_) (fun c1 => ?_)
  · rw [if_neg c1] at ho
    refine us_aload_n hR dX11_sets_17 rfl ?_
    refine us_iconstC hR dX11_sets_18 (c := 3) (by decide) ?_
    refine us_callV hR dX11_sets_19 (y := 12020) (by decide +kernel) (by decide) (J := i12020) rfl rfl rfl rfl hE.2.1 rfl (Nat.le_of_ble_eq_true rfl) (Nat.zero_le _) (Nat.zero_le _) ?_
    refine sp_12020 hE hP  (fun I2 q2 hs2 hb2 hP2 hF2 => ?_)
    rw [← hs2] at ho
    obtain ⟨s2, r2⟩ := q2
    rw [bT_eq] at ho
    have hF2 := hF.tr hF2
    refine us_iret hR dX11_sets_22 rfl (nar01 hb2) ?_
    cases ho
    exact h2 _ hb2 hP2 hF2
  · rw [if_pos c1] at ho
    refine us_aload_n hR dX11_sets_8 rfl ?_
    refine us_iload_n hR dX11_sets_9 rfl ?_
    refine us_iload_n hR dX11_sets_10 rfl ?_
    refine us_callV hR dX11_sets_11 (y := 12022) (by decide +kernel) (by decide) (J := i12022) rfl rfl rfl rfl hE.2.1 rfl (Nat.le_of_ble_eq_true rfl) (Nat.zero_le _) (Nat.zero_le _) ?_
    obtain ⟨q3, hs3⟩ := bO_ex ho
    obtain ⟨s3, r3⟩ := q3
    replace ho := bO_go ho hs3
    refine sp_12022 hE hP  hs3 (fun I3 hb3 hP3 hF3 => ?_)
    have hF3 := hF.tr hF3
    refine us_goto hR dX11_sets_14 22 (by decide) ?_
    refine us_iret hR dX11_sets_22 rfl (nar01 hb3) ?_
    cases ho
    exact h2 _ hb3 hP3 hF3
def f_12054  (s : Mx) : Option (Mx × Int32) :=
  if 0 ≤ (mf s 5) then
    if (mf s 32) = 0 then
      bO (f_12042 s) fun s5 r5 =>
      some (s5, r5)
    else if (mf s 32) = 1 then
      bO (f_12039 s) fun s6 r6 =>
      some (s6, r6)
    else if (mf s 32) = 2 then
      bO (f_12043 s) fun s7 r7 =>
      some (s7, r7)
    else if (mf s 32) = 3 then
      bO (f_12043 s) fun s8 r8 =>
      some (s8, r8)
    else if (mf s 32) = 4 then
      bO (f_12045 s) fun s9 r9 =>
      some (s9, r9)
    else if (mf s 32) = 5 then
      bO (f_12053 25 2 s) fun s10 r10 =>
      some (s10, r10)
    else if (mf s 32) = 6 then
      bOv (f_12024 49 0 s) fun s11 =>
      bO (f_12053 25 2 s11) fun s12 r12 =>
      some (s12, r12)
    else if (mf s 32) = 7 then
      bO (f_12052 s) fun s13 r13 =>
      some (s13, r13)
    else if (mf s 32) = 8 then
      bO (f_12049 s) fun s14 r14 =>
      some (s14, r14)
    else if (mf s 32) = 9 then
      if (mf s 5) = 26 then
        bT (f_12026 s) fun s17 r17 =>
        if r17 = 0 then
          some (s17, 0)
        else
          bO (f_12022 26 10 s17) fun s19 r19 =>
          if r19 = 0 then
            some (s19, 0)
          else
            some (s19, 1)
      else
        bT (f_12020 3 s) fun s16 r16 =>
        some (s16, r16)
    else if (mf s 32) = 10 then
      bO (f_12050 s) fun s21 r21 =>
      some (s21, r21)
    else if (mf s 32) = 11 then
      bO (f_12050 s) fun s22 r22 =>
      some (s22, r22)
    else if (mf s 32) = 12 then
      bO (f_12051 s) fun s23 r23 =>
      some (s23, r23)
    else if (mf s 32) = 13 then
      bT (f_12026 s) fun s24 r24 =>
      if r24 = 0 then
        some (s24, 0)
      else
        bO (f_12022 26 3 s24) fun s26 r26 =>
        if r26 = 0 then
          some (s26, 0)
        else
          some (s26, 1)
    else
      gd (vi (mf s 43) 100) <|
      bS (ms s 8 (mf s 43) (mf s 14)) fun s3 =>
      bO (f_12053 31 0 s3) fun s4 r4 =>
      some (s4, r4)
  else
    bT (f_12020 (-(mf s 5)) s) fun s28 r28 =>
    some (s28, r28)
theorem sp_12054 {d : Nat} {G : ab_G} {ad : Nat → Nat} {I : Nat → Nat → Int32} {s : Mx} {P : ab_Pq} {X : ab_Xq} (hE : EM G ad) (hP : RepM I ad s)   {o : Mx × Int32} (ho : f_12054 s = some o) (h : ∀ I1, (o.2 = 0 ∨ o.2 = 1) → RepM I1 ad o.1 → FrM ad I I1 → P (gW G I1) (some (.int o.2))) : ab_Gam (d + 7) 12054 [.ref (ad 0)] (gW G I) P X := by
  have h2 := h
  have hF : FrM ad I I := FrM_rfl
  unfold f_12054 at ho
  refine ab_enter (I := i12054) rfl (Nat.le_of_ble_eq_true rfl) (fun R hR => ?_)
  refine us_aload_n hR dX11_accepts_0 rfl ?_
  refine us_getIx hR dX11_accepts_1 fR_12_240 hE.2.1 rfl (RepM_f hP 5) ?_
  refine us_if_ge hR dX11_accepts_4 17 (by decide) (fun c1 => ?_) (fun c1 => ?_)
  · rw [if_pos c1] at ho
    refine us_aload_n hR dX11_accepts_17 rfl ?_
    refine us_getIx hR dX11_accepts_18 fR_12_266 hE.2.1 rfl (RepM_f hP 32) ?_
    refine us_tsw hR dX11_accepts_21 (fun c2 => ⟨by decide, ?_⟩) (by decide) ⟨fun c2 => ⟨by decide, ?_⟩, fun c2 => ⟨by decide, ?_⟩, fun c2 => ⟨by decide, ?_⟩, fun c2 => ⟨by decide, ?_⟩, fun c2 => ⟨by decide, ?_⟩, fun c2 => ⟨by decide, ?_⟩, fun c2 => ⟨by decide, ?_⟩, fun c2 => ⟨by decide, ?_⟩, fun c2 => ⟨by decide, ?_⟩, fun c2 => ⟨by decide, ?_⟩, fun c2 => ⟨by decide, ?_⟩, fun c2 => ⟨by decide, ?_⟩, fun c2 => ⟨by decide, ?_⟩, fun c2 => ⟨by decide, ?_⟩, trivial⟩
    · rw [if_neg (i_sw_d (v := 0) c2 (by decide)), if_neg (i_sw_d (v := 1) c2 (by decide)), if_neg (i_sw_d (v := 2) c2 (by decide)), if_neg (i_sw_d (v := 3) c2 (by decide)), if_neg (i_sw_d (v := 4) c2 (by decide)), if_neg (i_sw_d (v := 5) c2 (by decide)), if_neg (i_sw_d (v := 6) c2 (by decide)), if_neg (i_sw_d (v := 7) c2 (by decide)), if_neg (i_sw_d (v := 8) c2 (by decide)), if_neg (i_sw_d (v := 9) c2 (by decide)), if_neg (i_sw_d (v := 10) c2 (by decide)), if_neg (i_sw_d (v := 11) c2 (by decide)), if_neg (i_sw_d (v := 12) c2 (by decide)), if_neg (i_sw_d (v := 13) c2 (by decide))] at ho
      refine us_aload_n hR dX11_accepts_219 rfl ?_
      refine us_getR hR dX11_accepts_220 fR_12_32 hE.2.1 rfl (em_r_18 hE) ?_
      refine us_aload_n hR dX11_accepts_223 rfl ?_
      refine us_getIx hR dX11_accepts_224 fR_12_272 hE.2.1 rfl (RepM_f hP 43) ?_
      refine us_aload_n hR dX11_accepts_227 rfl ?_
      refine us_getIx hR dX11_accepts_228 fR_12_263 hE.2.1 rfl (RepM_f hP 14) ?_
      have hg := gd_c ho
      rw [gd_e hg] at ho
      refine us_iastoreM hE hP (em_q_18 hE) hR dX11_accepts_231 hg (fun I3 s3 hs3 hP3 hF3 => ?_)
      rw [← hs3, bS_eq] at ho
      have hF3 := hF.tr hF3
      refine us_aload_n hR dX11_accepts_232 rfl ?_
      refine us_bipushC hR dX11_accepts_233 (c := 31) (by decide) ?_
      refine us_iconstC hR dX11_accepts_235 (c := 0) (by decide) ?_
      refine us_callV hR dX11_accepts_236 (y := 12053) (by decide +kernel) (by decide) (J := i12053) rfl rfl rfl rfl hE.2.1 rfl (Nat.le_of_ble_eq_true rfl) (Nat.zero_le _) (Nat.zero_le _) ?_
      obtain ⟨q4, hs4⟩ := bO_ex ho
      obtain ⟨s4, r4⟩ := q4
      replace ho := bO_go ho hs4
      refine sp_12053 hE hP3  hs4 (fun I4 hb4 hP4 hF4 => ?_)
      have hF4 := hF3.tr hF4
      refine us_iret hR dX11_accepts_239 rfl (nar01 hb4) ?_
      cases ho
      exact h2 _ hb4 hP4 hF4
    · rw [if_pos (i_sw (v := 0) c2)] at ho
      refine us_aload_n hR dX11_accepts_92 rfl ?_
      refine us_callV hR dX11_accepts_93 (y := 12042) (by decide +kernel) (by decide) (J := i12042) rfl rfl rfl rfl hE.2.1 rfl (Nat.le_of_ble_eq_true rfl) (Nat.zero_le _) (Nat.zero_le _) ?_
      obtain ⟨q5, hs5⟩ := bO_ex ho
      obtain ⟨s5, r5⟩ := q5
      replace ho := bO_go ho hs5
      refine sp_12042 hE hP  hs5 (fun I5 hb5 hP5 hF5 => ?_)
      have hF5 := hF.tr hF5
      refine us_iret hR dX11_accepts_96 rfl (nar01 hb5) ?_
      cases ho
      exact h2 _ hb5 hP5 hF5
    · rw [if_neg (i_sw_x (v := 1) (w := 0) c2 (by decide)), if_pos (i_sw (v := 1) c2)] at ho
      refine us_aload_n hR dX11_accepts_97 rfl ?_
      refine us_callV hR dX11_accepts_98 (y := 12039) (by decide +kernel) (by decide) (J := i12039) rfl rfl rfl rfl hE.2.1 rfl (Nat.le_of_ble_eq_true rfl) (Nat.zero_le _) (Nat.zero_le _) ?_
      obtain ⟨q6, hs6⟩ := bO_ex ho
      obtain ⟨s6, r6⟩ := q6
      replace ho := bO_go ho hs6
      refine sp_12039 hE hP  hs6 (fun I6 hb6 hP6 hF6 => ?_)
      have hF6 := hF.tr hF6
      refine us_iret hR dX11_accepts_101 rfl (nar01 hb6) ?_
      cases ho
      exact h2 _ hb6 hP6 hF6
    · rw [if_neg (i_sw_x (v := 2) (w := 0) c2 (by decide)), if_neg (i_sw_x (v := 2) (w := 1) c2 (by decide)), if_pos (i_sw (v := 2) c2)] at ho
      refine us_aload_n hR dX11_accepts_102 rfl ?_
      refine us_callV hR dX11_accepts_103 (y := 12043) (by decide +kernel) (by decide) (J := i12043) rfl rfl rfl rfl hE.2.1 rfl (Nat.le_of_ble_eq_true rfl) (Nat.zero_le _) (Nat.zero_le _) ?_
      obtain ⟨q7, hs7⟩ := bO_ex ho
      obtain ⟨s7, r7⟩ := q7
      replace ho := bO_go ho hs7
      refine sp_12043 hE hP  hs7 (fun I7 hb7 hP7 hF7 => ?_)
      have hF7 := hF.tr hF7
      refine us_iret hR dX11_accepts_106 rfl (nar01 hb7) ?_
      cases ho
      exact h2 _ hb7 hP7 hF7
    · rw [if_neg (i_sw_x (v := 3) (w := 0) c2 (by decide)), if_neg (i_sw_x (v := 3) (w := 1) c2 (by decide)), if_neg (i_sw_x (v := 3) (w := 2) c2 (by decide)), if_pos (i_sw (v := 3) c2)] at ho
      refine us_aload_n hR dX11_accepts_102 rfl ?_
      refine us_callV hR dX11_accepts_103 (y := 12043) (by decide +kernel) (by decide) (J := i12043) rfl rfl rfl rfl hE.2.1 rfl (Nat.le_of_ble_eq_true rfl) (Nat.zero_le _) (Nat.zero_le _) ?_
      obtain ⟨q8, hs8⟩ := bO_ex ho
      obtain ⟨s8, r8⟩ := q8
      replace ho := bO_go ho hs8
      refine sp_12043 hE hP  hs8 (fun I8 hb8 hP8 hF8 => ?_)
      have hF8 := hF.tr hF8
      refine us_iret hR dX11_accepts_106 rfl (nar01 hb8) ?_
      cases ho
      exact h2 _ hb8 hP8 hF8
    · rw [if_neg (i_sw_x (v := 4) (w := 0) c2 (by decide)), if_neg (i_sw_x (v := 4) (w := 1) c2 (by decide)), if_neg (i_sw_x (v := 4) (w := 2) c2 (by decide)), if_neg (i_sw_x (v := 4) (w := 3) c2 (by decide)), if_pos (i_sw (v := 4) c2)] at ho
      refine us_aload_n hR dX11_accepts_107 rfl ?_
      refine us_callV hR dX11_accepts_108 (y := 12045) (by decide +kernel) (by decide) (J := i12045) rfl rfl rfl rfl hE.2.1 rfl (Nat.le_of_ble_eq_true rfl) (Nat.zero_le _) (Nat.zero_le _) ?_
      obtain ⟨q9, hs9⟩ := bO_ex ho
      obtain ⟨s9, r9⟩ := q9
      replace ho := bO_go ho hs9
      refine sp_12045 hE hP  hs9 (fun I9 hb9 hP9 hF9 => ?_)
      have hF9 := hF.tr hF9
      refine us_iret hR dX11_accepts_111 rfl (nar01 hb9) ?_
      cases ho
      exact h2 _ hb9 hP9 hF9
    · rw [if_neg (i_sw_x (v := 5) (w := 0) c2 (by decide)), if_neg (i_sw_x (v := 5) (w := 1) c2 (by decide)), if_neg (i_sw_x (v := 5) (w := 2) c2 (by decide)), if_neg (i_sw_x (v := 5) (w := 3) c2 (by decide)), if_neg (i_sw_x (v := 5) (w := 4) c2 (by decide)), if_pos (i_sw (v := 5) c2)] at ho
      refine us_aload_n hR dX11_accepts_112 rfl ?_
      refine us_bipushC hR dX11_accepts_113 (c := 25) (by decide) ?_
      refine us_iconstC hR dX11_accepts_115 (c := 2) (by decide) ?_
      refine us_callV hR dX11_accepts_116 (y := 12053) (by decide +kernel) (by decide) (J := i12053) rfl rfl rfl rfl hE.2.1 rfl (Nat.le_of_ble_eq_true rfl) (Nat.zero_le _) (Nat.zero_le _) ?_
      obtain ⟨q10, hs10⟩ := bO_ex ho
      obtain ⟨s10, r10⟩ := q10
      replace ho := bO_go ho hs10
      refine sp_12053 hE hP  hs10 (fun I10 hb10 hP10 hF10 => ?_)
      have hF10 := hF.tr hF10
      refine us_iret hR dX11_accepts_119 rfl (nar01 hb10) ?_
      cases ho
      exact h2 _ hb10 hP10 hF10
    · rw [if_neg (i_sw_x (v := 6) (w := 0) c2 (by decide)), if_neg (i_sw_x (v := 6) (w := 1) c2 (by decide)), if_neg (i_sw_x (v := 6) (w := 2) c2 (by decide)), if_neg (i_sw_x (v := 6) (w := 3) c2 (by decide)), if_neg (i_sw_x (v := 6) (w := 4) c2 (by decide)), if_neg (i_sw_x (v := 6) (w := 5) c2 (by decide)), if_pos (i_sw (v := 6) c2)] at ho
      refine us_aload_n hR dX11_accepts_120 rfl ?_
      refine us_bipushC hR dX11_accepts_121 (c := 49) (by decide) ?_
      refine us_iconstC hR dX11_accepts_123 (c := 0) (by decide) ?_
      refine us_callV hR dX11_accepts_124 (y := 12024) (by decide +kernel) (by decide) (J := i12024) rfl rfl rfl rfl hE.2.1 rfl (Nat.le_of_ble_eq_true rfl) (Nat.zero_le _) (Nat.zero_le _) ?_
      obtain ⟨s11, hs11⟩ := bOv_ex ho
      replace ho := bOv_go ho hs11
      refine sp_12024 hE hP  hs11 (fun I11 hP11 hF11 => ?_)
      have hF11 := hF.tr hF11
      refine us_aload_n hR dX11_accepts_127 rfl ?_
      refine us_bipushC hR dX11_accepts_128 (c := 25) (by decide) ?_
      refine us_iconstC hR dX11_accepts_130 (c := 2) (by decide) ?_
      refine us_callV hR dX11_accepts_131 (y := 12053) (by decide +kernel) (by decide) (J := i12053) rfl rfl rfl rfl hE.2.1 rfl (Nat.le_of_ble_eq_true rfl) (Nat.zero_le _) (Nat.zero_le _) ?_
      obtain ⟨q12, hs12⟩ := bO_ex ho
      obtain ⟨s12, r12⟩ := q12
      replace ho := bO_go ho hs12
      refine sp_12053 hE hP11  hs12 (fun I12 hb12 hP12 hF12 => ?_)
      have hF12 := hF11.tr hF12
      refine us_iret hR dX11_accepts_134 rfl (nar01 hb12) ?_
      cases ho
      exact h2 _ hb12 hP12 hF12
    · rw [if_neg (i_sw_x (v := 7) (w := 0) c2 (by decide)), if_neg (i_sw_x (v := 7) (w := 1) c2 (by decide)), if_neg (i_sw_x (v := 7) (w := 2) c2 (by decide)), if_neg (i_sw_x (v := 7) (w := 3) c2 (by decide)), if_neg (i_sw_x (v := 7) (w := 4) c2 (by decide)), if_neg (i_sw_x (v := 7) (w := 5) c2 (by decide)), if_neg (i_sw_x (v := 7) (w := 6) c2 (by decide)), if_pos (i_sw (v := 7) c2)] at ho
      refine us_aload_n hR dX11_accepts_135 rfl ?_
      refine us_callV hR dX11_accepts_136 (y := 12052) (by decide +kernel) (by decide) (J := i12052) rfl rfl rfl rfl hE.2.1 rfl (Nat.le_of_ble_eq_true rfl) (Nat.zero_le _) (Nat.zero_le _) ?_
      obtain ⟨q13, hs13⟩ := bO_ex ho
      obtain ⟨s13, r13⟩ := q13
      replace ho := bO_go ho hs13
      refine sp_12052 hE hP  hs13 (fun I13 hb13 hP13 hF13 => ?_)
      have hF13 := hF.tr hF13
      refine us_iret hR dX11_accepts_139 rfl (nar01 hb13) ?_
      cases ho
      exact h2 _ hb13 hP13 hF13
    · rw [if_neg (i_sw_x (v := 8) (w := 0) c2 (by decide)), if_neg (i_sw_x (v := 8) (w := 1) c2 (by decide)), if_neg (i_sw_x (v := 8) (w := 2) c2 (by decide)), if_neg (i_sw_x (v := 8) (w := 3) c2 (by decide)), if_neg (i_sw_x (v := 8) (w := 4) c2 (by decide)), if_neg (i_sw_x (v := 8) (w := 5) c2 (by decide)), if_neg (i_sw_x (v := 8) (w := 6) c2 (by decide)), if_neg (i_sw_x (v := 8) (w := 7) c2 (by decide)), if_pos (i_sw (v := 8) c2)] at ho
      refine us_aload_n hR dX11_accepts_140 rfl ?_
      refine us_callV hR dX11_accepts_141 (y := 12049) (by decide +kernel) (by decide) (J := i12049) rfl rfl rfl rfl hE.2.1 rfl (Nat.le_of_ble_eq_true rfl) (Nat.zero_le _) (Nat.zero_le _) ?_
      obtain ⟨q14, hs14⟩ := bO_ex ho
      obtain ⟨s14, r14⟩ := q14
      replace ho := bO_go ho hs14
      refine sp_12049 hE hP  hs14 (fun I14 hb14 hP14 hF14 => ?_)
      have hF14 := hF.tr hF14
      refine us_iret hR dX11_accepts_144 rfl (nar01 hb14) ?_
      cases ho
      exact h2 _ hb14 hP14 hF14
    · rw [if_neg (i_sw_x (v := 9) (w := 0) c2 (by decide)), if_neg (i_sw_x (v := 9) (w := 1) c2 (by decide)), if_neg (i_sw_x (v := 9) (w := 2) c2 (by decide)), if_neg (i_sw_x (v := 9) (w := 3) c2 (by decide)), if_neg (i_sw_x (v := 9) (w := 4) c2 (by decide)), if_neg (i_sw_x (v := 9) (w := 5) c2 (by decide)), if_neg (i_sw_x (v := 9) (w := 6) c2 (by decide)), if_neg (i_sw_x (v := 9) (w := 7) c2 (by decide)), if_neg (i_sw_x (v := 9) (w := 8) c2 (by decide)), if_pos (i_sw (v := 9) c2)] at ho
      refine us_aload_n hR dX11_accepts_145 rfl ?_
      refine us_getIx hR dX11_accepts_146 fR_12_240 hE.2.1 rfl (RepM_f hP 5) ?_
      refine us_bipushC hR dX11_accepts_149 (c := 26) (by decide) ?_
      refine us_icmp_ne hR dX11_accepts_151 180 (by decide) (fun c15 => ?_) (fun c15 => ?_)
      · rw [if_neg c15] at ho
        refine us_aload_n hR dX11_accepts_180 rfl ?_
        refine us_iconstC hR dX11_accepts_181 (c := 3) (by decide) ?_
        refine us_callV hR dX11_accepts_182 (y := 12020) (by decide +kernel) (by decide) (J := i12020) rfl rfl rfl rfl hE.2.1 rfl (Nat.le_of_ble_eq_true rfl) (Nat.zero_le _) (Nat.zero_le _) ?_
        refine sp_12020 hE hP  (fun I16 q16 hs16 hb16 hP16 hF16 => ?_)
        rw [← hs16] at ho
        obtain ⟨s16, r16⟩ := q16
        rw [bT_eq] at ho
        have hF16 := hF.tr hF16
        refine us_iret hR dX11_accepts_185 rfl (nar01 hb16) ?_
        cases ho
        exact h2 _ hb16 hP16 hF16
      · rw [if_pos c15] at ho
        refine us_aload_n hR dX11_accepts_154 rfl ?_
        refine us_callV hR dX11_accepts_155 (y := 12026) (by decide +kernel) (by decide) (J := i12026) rfl rfl rfl rfl hE.2.1 rfl (Nat.le_of_ble_eq_true rfl) (Nat.zero_le _) (Nat.zero_le _) ?_
        refine sp_12026 hE hP  (fun I17 q17 hs17 hb17 hP17 hF17 => ?_)
        rw [← hs17] at ho
        obtain ⟨s17, r17⟩ := q17
        rw [bT_eq] at ho
        have hF17 := hF.tr hF17
        refine us_if_eq hR dX11_accepts_158 176 (by decide) (fun c18 => ?_) (fun c18 => ?_)
        · rw [if_pos c18] at ho
          refine us_iconstC hR dX11_accepts_176 (c := 0) (by decide) ?_
          refine us_goto hR dX11_accepts_177 185 (by decide) ?_
          refine us_iret hR dX11_accepts_185 rfl (nar01 (Or.inl rfl)) ?_
          cases ho
          exact h2 _ (Or.inl rfl) hP17 hF17
        · rw [if_neg c18] at ho
          refine us_aload_n hR dX11_accepts_161 rfl ?_
          refine us_bipushC hR dX11_accepts_162 (c := 26) (by decide) ?_
          refine us_bipushC hR dX11_accepts_164 (c := 10) (by decide) ?_
          refine us_callV hR dX11_accepts_166 (y := 12022) (by decide +kernel) (by decide) (J := i12022) rfl rfl rfl rfl hE.2.1 rfl (Nat.le_of_ble_eq_true rfl) (Nat.zero_le _) (Nat.zero_le _) ?_
          obtain ⟨q19, hs19⟩ := bO_ex ho
          obtain ⟨s19, r19⟩ := q19
          replace ho := bO_go ho hs19
          refine sp_12022 hE hP17  hs19 (fun I19 hb19 hP19 hF19 => ?_)
          have hF19 := hF17.tr hF19
          refine us_if_eq hR dX11_accepts_169 176 (by decide) (fun c20 => ?_) (fun c20 => ?_)
          · rw [if_pos c20] at ho
            refine us_iconstC hR dX11_accepts_176 (c := 0) (by decide) ?_
            refine us_goto hR dX11_accepts_177 185 (by decide) ?_
            refine us_iret hR dX11_accepts_185 rfl (nar01 (Or.inl rfl)) ?_
            cases ho
            exact h2 _ (Or.inl rfl) hP19 hF19
          · rw [if_neg c20] at ho
            refine us_iconstC hR dX11_accepts_172 (c := 1) (by decide) ?_
            refine us_goto hR dX11_accepts_173 185 (by decide) ?_
            refine us_iret hR dX11_accepts_185 rfl (nar01 (Or.inr rfl)) ?_
            cases ho
            exact h2 _ (Or.inr rfl) hP19 hF19
    · rw [if_neg (i_sw_x (v := 10) (w := 0) c2 (by decide)), if_neg (i_sw_x (v := 10) (w := 1) c2 (by decide)), if_neg (i_sw_x (v := 10) (w := 2) c2 (by decide)), if_neg (i_sw_x (v := 10) (w := 3) c2 (by decide)), if_neg (i_sw_x (v := 10) (w := 4) c2 (by decide)), if_neg (i_sw_x (v := 10) (w := 5) c2 (by decide)), if_neg (i_sw_x (v := 10) (w := 6) c2 (by decide)), if_neg (i_sw_x (v := 10) (w := 7) c2 (by decide)), if_neg (i_sw_x (v := 10) (w := 8) c2 (by decide)), if_neg (i_sw_x (v := 10) (w := 9) c2 (by decide)), if_pos (i_sw (v := 10) c2)] at ho
      refine us_aload_n hR dX11_accepts_186 rfl ?_
      refine us_callV hR dX11_accepts_187 (y := 12050) (by decide +kernel) (by decide) (J := i12050) rfl rfl rfl rfl hE.2.1 rfl (Nat.le_of_ble_eq_true rfl) (Nat.zero_le _) (Nat.zero_le _) ?_
      obtain ⟨q21, hs21⟩ := bO_ex ho
      obtain ⟨s21, r21⟩ := q21
      replace ho := bO_go ho hs21
      refine sp_12050 hE hP  hs21 (fun I21 hb21 hP21 hF21 => ?_)
      have hF21 := hF.tr hF21
      refine us_iret hR dX11_accepts_190 rfl (nar01 hb21) ?_
      cases ho
      exact h2 _ hb21 hP21 hF21
    · rw [if_neg (i_sw_x (v := 11) (w := 0) c2 (by decide)), if_neg (i_sw_x (v := 11) (w := 1) c2 (by decide)), if_neg (i_sw_x (v := 11) (w := 2) c2 (by decide)), if_neg (i_sw_x (v := 11) (w := 3) c2 (by decide)), if_neg (i_sw_x (v := 11) (w := 4) c2 (by decide)), if_neg (i_sw_x (v := 11) (w := 5) c2 (by decide)), if_neg (i_sw_x (v := 11) (w := 6) c2 (by decide)), if_neg (i_sw_x (v := 11) (w := 7) c2 (by decide)), if_neg (i_sw_x (v := 11) (w := 8) c2 (by decide)), if_neg (i_sw_x (v := 11) (w := 9) c2 (by decide)), if_neg (i_sw_x (v := 11) (w := 10) c2 (by decide)), if_pos (i_sw (v := 11) c2)] at ho
      refine us_aload_n hR dX11_accepts_186 rfl ?_
      refine us_callV hR dX11_accepts_187 (y := 12050) (by decide +kernel) (by decide) (J := i12050) rfl rfl rfl rfl hE.2.1 rfl (Nat.le_of_ble_eq_true rfl) (Nat.zero_le _) (Nat.zero_le _) ?_
      obtain ⟨q22, hs22⟩ := bO_ex ho
      obtain ⟨s22, r22⟩ := q22
      replace ho := bO_go ho hs22
      refine sp_12050 hE hP  hs22 (fun I22 hb22 hP22 hF22 => ?_)
      have hF22 := hF.tr hF22
      refine us_iret hR dX11_accepts_190 rfl (nar01 hb22) ?_
      cases ho
      exact h2 _ hb22 hP22 hF22
    · rw [if_neg (i_sw_x (v := 12) (w := 0) c2 (by decide)), if_neg (i_sw_x (v := 12) (w := 1) c2 (by decide)), if_neg (i_sw_x (v := 12) (w := 2) c2 (by decide)), if_neg (i_sw_x (v := 12) (w := 3) c2 (by decide)), if_neg (i_sw_x (v := 12) (w := 4) c2 (by decide)), if_neg (i_sw_x (v := 12) (w := 5) c2 (by decide)), if_neg (i_sw_x (v := 12) (w := 6) c2 (by decide)), if_neg (i_sw_x (v := 12) (w := 7) c2 (by decide)), if_neg (i_sw_x (v := 12) (w := 8) c2 (by decide)), if_neg (i_sw_x (v := 12) (w := 9) c2 (by decide)), if_neg (i_sw_x (v := 12) (w := 10) c2 (by decide)), if_neg (i_sw_x (v := 12) (w := 11) c2 (by decide)), if_pos (i_sw (v := 12) c2)] at ho
      refine us_aload_n hR dX11_accepts_191 rfl ?_
      refine us_callV hR dX11_accepts_192 (y := 12051) (by decide +kernel) (by decide) (J := i12051) rfl rfl rfl rfl hE.2.1 rfl (Nat.le_of_ble_eq_true rfl) (Nat.zero_le _) (Nat.zero_le _) ?_
      obtain ⟨q23, hs23⟩ := bO_ex ho
      obtain ⟨s23, r23⟩ := q23
      replace ho := bO_go ho hs23
      refine sp_12051 hE hP  hs23 (fun I23 hb23 hP23 hF23 => ?_)
      have hF23 := hF.tr hF23
      refine us_iret hR dX11_accepts_195 rfl (nar01 hb23) ?_
      cases ho
      exact h2 _ hb23 hP23 hF23
    · rw [if_neg (i_sw_x (v := 13) (w := 0) c2 (by decide)), if_neg (i_sw_x (v := 13) (w := 1) c2 (by decide)), if_neg (i_sw_x (v := 13) (w := 2) c2 (by decide)), if_neg (i_sw_x (v := 13) (w := 3) c2 (by decide)), if_neg (i_sw_x (v := 13) (w := 4) c2 (by decide)), if_neg (i_sw_x (v := 13) (w := 5) c2 (by decide)), if_neg (i_sw_x (v := 13) (w := 6) c2 (by decide)), if_neg (i_sw_x (v := 13) (w := 7) c2 (by decide)), if_neg (i_sw_x (v := 13) (w := 8) c2 (by decide)), if_neg (i_sw_x (v := 13) (w := 9) c2 (by decide)), if_neg (i_sw_x (v := 13) (w := 10) c2 (by decide)), if_neg (i_sw_x (v := 13) (w := 11) c2 (by decide)), if_neg (i_sw_x (v := 13) (w := 12) c2 (by decide)), if_pos (i_sw (v := 13) c2)] at ho
      refine us_aload_n hR dX11_accepts_196 rfl ?_
      refine us_callV hR dX11_accepts_197 (y := 12026) (by decide +kernel) (by decide) (J := i12026) rfl rfl rfl rfl hE.2.1 rfl (Nat.le_of_ble_eq_true rfl) (Nat.zero_le _) (Nat.zero_le _) ?_
      refine sp_12026 hE hP  (fun I24 q24 hs24 hb24 hP24 hF24 => ?_)
      rw [← hs24] at ho
      obtain ⟨s24, r24⟩ := q24
      rw [bT_eq] at ho
      have hF24 := hF.tr hF24
      refine us_if_eq hR dX11_accepts_200 217 (by decide) (fun c25 => ?_) (fun c25 => ?_)
      · rw [if_pos c25] at ho
        refine us_iconstC hR dX11_accepts_217 (c := 0) (by decide) ?_
        refine us_iret hR dX11_accepts_218 rfl (nar01 (Or.inl rfl)) ?_
        cases ho
        exact h2 _ (Or.inl rfl) hP24 hF24
      · rw [if_neg c25] at ho
        refine us_aload_n hR dX11_accepts_203 rfl ?_
        refine us_bipushC hR dX11_accepts_204 (c := 26) (by decide) ?_
        refine us_iconstC hR dX11_accepts_206 (c := 3) (by decide) ?_
        refine us_callV hR dX11_accepts_207 (y := 12022) (by decide +kernel) (by decide) (J := i12022) rfl rfl rfl rfl hE.2.1 rfl (Nat.le_of_ble_eq_true rfl) (Nat.zero_le _) (Nat.zero_le _) ?_
        obtain ⟨q26, hs26⟩ := bO_ex ho
        obtain ⟨s26, r26⟩ := q26
        replace ho := bO_go ho hs26
        refine sp_12022 hE hP24  hs26 (fun I26 hb26 hP26 hF26 => ?_)
        have hF26 := hF24.tr hF26
        refine us_if_eq hR dX11_accepts_210 217 (by decide) (fun c27 => ?_) (fun c27 => ?_)
        · rw [if_pos c27] at ho
          refine us_iconstC hR dX11_accepts_217 (c := 0) (by decide) ?_
          refine us_iret hR dX11_accepts_218 rfl (nar01 (Or.inl rfl)) ?_
          cases ho
          exact h2 _ (Or.inl rfl) hP26 hF26
        · rw [if_neg c27] at ho
          refine us_iconstC hR dX11_accepts_213 (c := 1) (by decide) ?_
          refine us_goto hR dX11_accepts_214 218 (by decide) ?_
          refine us_iret hR dX11_accepts_218 rfl (nar01 (Or.inr rfl)) ?_
          cases ho
          exact h2 _ (Or.inr rfl) hP26 hF26
  · rw [if_neg c1] at ho
    refine us_aload_n hR dX11_accepts_7 rfl ?_
    refine us_aload_n hR dX11_accepts_8 rfl ?_
    refine us_getIx hR dX11_accepts_9 fR_12_240 hE.2.1 rfl (RepM_f hP 5) ?_
    refine us_ineg hR dX11_accepts_12 ?_
    refine us_callV hR dX11_accepts_13 (y := 12020) (by decide +kernel) (by decide) (J := i12020) rfl rfl rfl rfl hE.2.1 rfl (Nat.le_of_ble_eq_true rfl) (Nat.zero_le _) (Nat.zero_le _) ?_
    refine sp_12020 hE hP  (fun I28 q28 hs28 hb28 hP28 hF28 => ?_)
    rw [← hs28] at ho
    obtain ⟨s28, r28⟩ := q28
    rw [bT_eq] at ho
    have hF28 := hF.tr hF28
    refine us_iret hR dX11_accepts_16 rfl (nar01 hb28) ?_
    cases ho
    exact h2 _ hb28 hP28 hF28
def f_12055_J179  (k99 : Int32 → Int32 → Mx → Option Mx) (l1 : Int32) (l2 : Int32) (l3 : Int32) (s : Mx) : Option Mx :=
  gd (vi l2 110) <|
  gd (vi (mg s 19 l2) 1200) <|
  bS (ms s 5 (mg s 19 l2) l3) fun s1 =>
  k99 l1 (l2 + 1) s1
def f_12055_J174  (k99 : Int32 → Int32 → Mx → Option Mx) (l1 : Int32) (l2 : Int32) (l3 : Int32) (k0 : Int32) (s : Mx) : Option Mx :=
  bT (f_12020 k0 s) fun s2 r2 =>
  f_12055_J179 k99 l1 l2 l3 s2
def f_12055_J151  (k99 : Int32 → Int32 → Mx → Option Mx) (l1 : Int32) (l2 : Int32) (l3 : Int32) (s : Mx) : Option Mx :=
  gd (vi l2 110) <|
  bS (mp s 6 (mg s 16 l2)) fun s3 =>
  if l3 = (-1) then
    f_12055_J174 k99 l1 l2 l3 7 s3
  else
    f_12055_J174 k99 l1 l2 l3 8 s3
def f_12055_L99  : Nat → Int32 → Int32 → Mx → Option Mx
  | 0, _, _, _ => none
  | n + 1, l1, l2, s =>
    if (mf s 27) ≤ l2 then
      some s
    else
      if (mf s 9) = 0 then
        gd (vi l2 110) <|
        gd (vi l2 110) <|
        bP (f_12030 (mg s 16 l2) (mg s 17 l2) s) fun r7 =>
        if r7 = (-1) then
          f_12055_J151 (f_12055_L99 n) l1 l2 r7 s
        else
          gd (vi r7 40) <|
          gd (vi l2 110) <|
          if (mg s 14 r7) = (mg s 18 l2) then
            f_12055_J179 (f_12055_L99 n) l1 l2 r7 s
          else
            f_12055_J151 (f_12055_L99 n) l1 l2 r7 s
      else
        some s
def f_12055_L81  : Nat → Int32 → Mx → Option Mx
  | 0, _, _ => none
  | n + 1, l1, s =>
    if l1 = 0 then
      f_12055_L99 1000 l1 0 s
    else
      bOv (f_12019 s) fun s11 =>
      bO (f_12054 s11) fun s12 r12 =>
      f_12055_L81 n r12 s12
def f_12055  (s : Mx) : Option Mx :=
  bS (mp s 7 0) fun s13 =>
  bS (mp s13 9 0) fun s14 =>
  bS (mp s14 10 (-1)) fun s15 =>
  bS (mp s15 11 0) fun s16 =>
  bS (mp s16 14 0) fun s17 =>
  bS (mp s17 16 0) fun s18 =>
  gd (vi 0 2) <|
  bS (ms s18 9 0 0) fun s19 =>
  gd (vi 1 2) <|
  bS (ms s19 9 1 0) fun s20 =>
  bS (mp s20 22 0) fun s21 =>
  bS (mp s21 27 0) fun s22 =>
  bS (mp s22 32 0) fun s23 =>
  bS (mp s23 33 0) fun s24 =>
  bS (mp s24 34 0) fun s25 =>
  bS (mp s25 35 0) fun s26 =>
  bS (mp s26 38 0) fun s27 =>
  f_12055_L81 1000 1 s27
theorem sp_12055 {d : Nat} {G : ab_G} {ad : Nat → Nat} {I : Nat → Nat → Int32} {s : Mx} {P : ab_Pq} {X : ab_Xq} (hE : EM G ad) (hP : RepM I ad s)   {o : Mx} (ho : f_12055 s = some o) (h : ∀ I1, RepM I1 ad o → FrM ad I I1 → P (gW G I1) none) : ab_Gam (d + 8) 12055 [.ref (ad 0)] (gW G I) P X := by
  have h2 := h
  have hF : FrM ad I I := FrM_rfl
  unfold f_12055 at ho
  refine ab_enter (I := i12055) rfl (Nat.le_of_ble_eq_true rfl) (fun R hR => ?_)
  have h12055_L99 : ∀ (n : Nat) (l1 : Int32) (l2 : Int32) (w3 : Option Value) (w4 : Option Value) (s : Mx) (Ia : Nat → Nat → Int32) (bc bs : Nat) (hPa : RepM Ia ad s) (hFa : FrM ad I Ia) (ho : f_12055_L99 n l1 l2 s = some o), R 99 [some (.ref (ad 0)), some (.int l1), some (.int l2), w3, w4] [] (gW G Ia) bc bs := by
    intro n
    induction n with
    | zero => intro l1 l2 w3 w4 s Ia bc bs  hPa hFa ho; exact absurd ho (by intro hc; cases hc)
    | succ n99 ih99 =>
      have h12055_J179 : ∀ (l1 : Int32) (l2 : Int32) (l3 : Int32) (w4 : Option Value) (s : Mx) (Ia : Nat → Nat → Int32) (bc bs : Nat) (hPa : RepM Ia ad s) (hFa : FrM ad I Ia) (ho : f_12055_J179 (f_12055_L99 n99) l1 l2 l3 s = some o), R 179 [some (.ref (ad 0)), some (.int l1), some (.int l2), some (.int l3), w4] [] (gW G Ia) bc bs := by
        intro l1 l2 l3 w4 s Ia bc bs  hPa hFa ho
        unfold f_12055_J179 at ho
        refine us_aload_n hR dX11_readsAll_179 rfl ?_
        refine us_getR hR dX11_readsAll_180 fR_12_23 hE.2.1 rfl (em_r_13 hE) ?_
        refine us_aload_n hR dX11_readsAll_183 rfl ?_
        refine us_getR hR dX11_readsAll_184 fR_12_65 hE.2.1 rfl (em_r_31 hE) ?_
        refine us_iload_n hR dX11_readsAll_187 rfl ?_
        have hg := gd_c ho
        rw [gd_e hg] at ho
        refine us_ialoadM hE hPa (em_q_31 hE) hR dX11_readsAll_188 hg ?_
        refine us_iload_n hR dX11_readsAll_189 rfl ?_
        have hg := gd_c ho
        rw [gd_e hg] at ho
        refine us_iastoreM hE hPa (em_q_13 hE) hR dX11_readsAll_190 hg (fun I1 s1 hs1 hP1 hF1 => ?_)
        rw [← hs1, bS_eq] at ho
        have hF1 := hFa.tr hF1
        refine us_iincC hR dX11_readsAll_191 rfl (Nat.le_of_ble_eq_true rfl) (c := 1) (by decide) ?_
        refine us_goto hR dX11_readsAll_194 99 (by decide) ?_
        exact ih99 l1 (l2 + 1) _ _ s1 I1 _ _ hP1 hF1 ho
      have h12055_J174 : ∀ (l1 : Int32) (l2 : Int32) (l3 : Int32) (k0 : Int32) (w4 : Option Value) (s : Mx) (Ia : Nat → Nat → Int32) (bc bs : Nat) (hPa : RepM Ia ad s) (hFa : FrM ad I Ia) (ho : f_12055_J174 (f_12055_L99 n99) l1 l2 l3 k0 s = some o), R 174 [some (.ref (ad 0)), some (.int l1), some (.int l2), some (.int l3), w4] [.int k0, .ref (ad 0)] (gW G Ia) bc bs := by
        intro l1 l2 l3 k0 w4 s Ia bc bs  hPa hFa ho
        unfold f_12055_J174 at ho
        refine us_callV hR dX11_readsAll_174 (y := 12020) (by decide +kernel) (by decide) (J := i12020) rfl rfl rfl rfl hE.2.1 rfl (Nat.le_of_ble_eq_true rfl) (Nat.zero_le _) (Nat.zero_le _) ?_
        refine sp_12020 hE hPa  (fun I2 q2 hs2 hb2 hP2 hF2 => ?_)
        rw [← hs2] at ho
        obtain ⟨s2, r2⟩ := q2
        rw [bT_eq] at ho
        have hF2 := hFa.tr hF2
        refine us_istore hR dX11_readsAll_177 (Nat.le_of_ble_eq_true rfl) ?_
        exact h12055_J179 l1 l2 l3 _ s2 I2 _ _ hP2 hF2 ho
      have h12055_J151 : ∀ (l1 : Int32) (l2 : Int32) (l3 : Int32) (w4 : Option Value) (s : Mx) (Ia : Nat → Nat → Int32) (bc bs : Nat) (hPa : RepM Ia ad s) (hFa : FrM ad I Ia) (ho : f_12055_J151 (f_12055_L99 n99) l1 l2 l3 s = some o), R 151 [some (.ref (ad 0)), some (.int l1), some (.int l2), some (.int l3), w4] [] (gW G Ia) bc bs := by
        intro l1 l2 l3 w4 s Ia bc bs  hPa hFa ho
        unfold f_12055_J151 at ho
        refine us_aload_n hR dX11_readsAll_151 rfl ?_
        refine us_aload_n hR dX11_readsAll_152 rfl ?_
        refine us_getR hR dX11_readsAll_153 fR_12_56 hE.2.1 rfl (em_r_28 hE) ?_
        refine us_iload_n hR dX11_readsAll_156 rfl ?_
        have hg := gd_c ho
        rw [gd_e hg] at ho
        refine us_ialoadM hE hPa (em_q_28 hE) hR dX11_readsAll_157 hg ?_
        refine us_putIM hE hPa 6 hR dX11_readsAll_158 fR_12_219 (Or.inl rfl) rfl rfl (fun I3 s3 hs3 hP3 hF3 => ?_)
        rw [← hs3, bS_eq] at ho
        have hF3 := hFa.tr hF3
        refine us_aload_n hR dX11_readsAll_161 rfl ?_
        refine us_iload_n hR dX11_readsAll_162 rfl ?_
        refine us_iconstC hR dX11_readsAll_163 (c := (-1)) (by decide) ?_
        refine us_icmp_ne hR dX11_readsAll_164 172 (by decide) (fun c4 => ?_) (fun c4 => ?_)
        · rw [if_neg c4] at ho
          refine us_bipushC hR dX11_readsAll_172 (c := 8) (by decide) ?_
          exact h12055_J174 l1 l2 l3 8 _ s3 I3 _ _ hP3 hF3 ho
        · rw [if_pos c4] at ho
          refine us_bipushC hR dX11_readsAll_167 (c := 7) (by decide) ?_
          refine us_goto hR dX11_readsAll_169 174 (by decide) ?_
          exact h12055_J174 l1 l2 l3 7 _ s3 I3 _ _ hP3 hF3 ho
      intro l1 l2 w3 w4 s Ia bc bs  hPa hFa ho
      rw [f_12055_L99] at ho
      refine us_iload_n hR dX11_readsAll_99 rfl ?_
      refine us_aload_n hR dX11_readsAll_100 rfl ?_
      refine us_getIx hR dX11_readsAll_101 fR_12_308 hE.2.1 rfl (RepM_f hPa 27) ?_
      refine us_icmp_ge hR dX11_readsAll_104 197 (by decide) (fun c5 => ?_) (fun c5 => ?_)
      · rw [if_pos c5] at ho
        refine us_vret hR dX11_readsAll_197 rfl ?_
        cases ho
        exact h2 _ hPa hFa
      · rw [if_neg c5] at ho
        refine us_aload_n hR dX11_readsAll_107 rfl ?_
        refine us_getIx hR dX11_readsAll_108 fR_12_254 hE.2.1 rfl (RepM_f hPa 9) ?_
        refine us_if_ne hR dX11_readsAll_111 197 (by decide) (fun c6 => ?_) (fun c6 => ?_)
        · rw [if_neg c6] at ho
          refine us_vret hR dX11_readsAll_197 rfl ?_
          cases ho
          exact h2 _ hPa hFa
        · rw [if_pos c6] at ho
          refine us_aload_n hR dX11_readsAll_114 rfl ?_
          refine us_aload_n hR dX11_readsAll_115 rfl ?_
          refine us_getR hR dX11_readsAll_116 fR_12_56 hE.2.1 rfl (em_r_28 hE) ?_
          refine us_iload_n hR dX11_readsAll_119 rfl ?_
          have hg := gd_c ho
          rw [gd_e hg] at ho
          refine us_ialoadM hE hPa (em_q_28 hE) hR dX11_readsAll_120 hg ?_
          refine us_aload_n hR dX11_readsAll_121 rfl ?_
          refine us_getR hR dX11_readsAll_122 fR_12_59 hE.2.1 rfl (em_r_29 hE) ?_
          refine us_iload_n hR dX11_readsAll_125 rfl ?_
          have hg := gd_c ho
          rw [gd_e hg] at ho
          refine us_ialoadM hE hPa (em_q_29 hE) hR dX11_readsAll_126 hg ?_
          refine us_callV hR dX11_readsAll_127 (y := 12030) (by decide +kernel) (by decide) (J := i12030) rfl rfl rfl rfl hE.2.1 rfl (Nat.le_of_ble_eq_true rfl) (Nat.zero_le _) (Nat.zero_le _) ?_
          obtain ⟨r7, hr7⟩ := bP_ex ho
          replace ho := bP_go ho hr7
          refine sp_12030 hE hPa  hr7 ?_
          refine us_istore_n hR dX11_readsAll_130 (Nat.le_of_ble_eq_true rfl) ?_
          refine us_iload_n hR dX11_readsAll_131 rfl ?_
          refine us_iconstC hR dX11_readsAll_132 (c := (-1)) (by decide) ?_
          refine us_icmp_eq hR dX11_readsAll_133 151 (by decide) (fun c8 => ?_) (fun c8 => ?_)
          · rw [if_pos c8] at ho
            exact h12055_J151 l1 l2 r7 _ s Ia _ _ hPa hFa ho
          · rw [if_neg c8] at ho
            refine us_aload_n hR dX11_readsAll_136 rfl ?_
            refine us_getR hR dX11_readsAll_137 fR_12_50 hE.2.1 rfl (em_r_25 hE) ?_
            refine us_iload_n hR dX11_readsAll_140 rfl ?_
            have hg := gd_c ho
            rw [gd_e hg] at ho
            refine us_ialoadM hE hPa (em_q_25 hE) hR dX11_readsAll_141 hg ?_
            refine us_aload_n hR dX11_readsAll_142 rfl ?_
            refine us_getR hR dX11_readsAll_143 fR_12_62 hE.2.1 rfl (em_r_30 hE) ?_
            refine us_iload_n hR dX11_readsAll_146 rfl ?_
            have hg := gd_c ho
            rw [gd_e hg] at ho
            refine us_ialoadM hE hPa (em_q_30 hE) hR dX11_readsAll_147 hg ?_
            refine us_icmp_eq hR dX11_readsAll_148 179 (by decide) (fun c9 => ?_) (fun c9 => ?_)
            · rw [if_pos c9] at ho
              exact h12055_J179 l1 l2 r7 _ s Ia _ _ hPa hFa ho
            · rw [if_neg c9] at ho
              exact h12055_J151 l1 l2 r7 _ s Ia _ _ hPa hFa ho
  have h12055_L81 : ∀ (n : Nat) (l1 : Int32)  (s : Mx) (Ia : Nat → Nat → Int32) (bc bs : Nat) (hPa : RepM Ia ad s) (hFa : FrM ad I Ia) (ho : f_12055_L81 n l1 s = some o), R 81 [some (.ref (ad 0)), some (.int l1), none, none, none] [] (gW G Ia) bc bs := by
    intro n
    induction n with
    | zero => intro l1  s Ia bc bs  hPa hFa ho; exact absurd ho (by intro hc; cases hc)
    | succ n81 ih81 =>
      intro l1  s Ia bc bs  hPa hFa ho
      rw [f_12055_L81] at ho
      refine us_iload_n hR dX11_readsAll_81 rfl ?_
      refine us_if_eq hR dX11_readsAll_82 97 (by decide) (fun c10 => ?_) (fun c10 => ?_)
      · rw [if_pos c10] at ho
        refine us_iconstC hR dX11_readsAll_97 (c := 0) (by decide) ?_
        refine us_istore_n hR dX11_readsAll_98 (Nat.le_of_ble_eq_true rfl) ?_
        exact h12055_L99 _ l1 0 _ _ s Ia _ _ hPa hFa ho
      · rw [if_neg c10] at ho
        refine us_aload_n hR dX11_readsAll_85 rfl ?_
        refine us_callV hR dX11_readsAll_86 (y := 12019) (by decide +kernel) (by decide) (J := i12019) rfl rfl rfl rfl hE.2.1 rfl (Nat.le_of_ble_eq_true rfl) (Nat.zero_le _) (Nat.zero_le _) ?_
        obtain ⟨s11, hs11⟩ := bOv_ex ho
        replace ho := bOv_go ho hs11
        refine sp_12019 hE hPa  hs11 (fun I11 hP11 hF11 => ?_)
        have hF11 := hFa.tr hF11
        refine us_aload_n hR dX11_readsAll_89 rfl ?_
        refine us_callV hR dX11_readsAll_90 (y := 12054) (by decide +kernel) (by decide) (J := i12054) rfl rfl rfl rfl hE.2.1 rfl (Nat.le_of_ble_eq_true rfl) (Nat.zero_le _) (Nat.zero_le _) ?_
        obtain ⟨q12, hs12⟩ := bO_ex ho
        obtain ⟨s12, r12⟩ := q12
        replace ho := bO_go ho hs12
        refine sp_12054 hE hP11  hs12 (fun I12 hb12 hP12 hF12 => ?_)
        have hF12 := hF11.tr hF12
        refine us_istore_n hR dX11_readsAll_93 (Nat.le_of_ble_eq_true rfl) ?_
        refine us_goto hR dX11_readsAll_94 81 (by decide) ?_
        exact ih81 r12  s12 I12 _ _ hP12 hF12 ho
  refine us_aload_n hR dX11_readsAll_0 rfl ?_
  refine us_iconstC hR dX11_readsAll_1 (c := 0) (by decide) ?_
  refine us_putIM hE hP 7 hR dX11_readsAll_2 fR_12_199 (Or.inl rfl) rfl rfl (fun I13 s13 hs13 hP13 hF13 => ?_)
  rw [← hs13, bS_eq] at ho
  have hF13 := hF.tr hF13
  refine us_aload_n hR dX11_readsAll_5 rfl ?_
  refine us_iconstC hR dX11_readsAll_6 (c := 0) (by decide) ?_
  refine us_putIM hE hP13 9 hR dX11_readsAll_7 fR_12_254 (Or.inl rfl) rfl rfl (fun I14 s14 hs14 hP14 hF14 => ?_)
  rw [← hs14, bS_eq] at ho
  have hF14 := hF13.tr hF14
  refine us_aload_n hR dX11_readsAll_10 rfl ?_
  refine us_iconstC hR dX11_readsAll_11 (c := (-1)) (by decide) ?_
  refine us_putIM hE hP14 10 hR dX11_readsAll_12 fR_12_257 (Or.inl rfl) rfl rfl (fun I15 s15 hs15 hP15 hF15 => ?_)
  rw [← hs15, bS_eq] at ho
  have hF15 := hF14.tr hF15
  refine us_aload_n hR dX11_readsAll_15 rfl ?_
  refine us_iconstC hR dX11_readsAll_16 (c := 0) (by decide) ?_
  refine us_putIM hE hP15 11 hR dX11_readsAll_17 fR_12_260 (Or.inl rfl) rfl rfl (fun I16 s16 hs16 hP16 hF16 => ?_)
  rw [← hs16, bS_eq] at ho
  have hF16 := hF15.tr hF16
  refine us_aload_n hR dX11_readsAll_20 rfl ?_
  refine us_iconstC hR dX11_readsAll_21 (c := 0) (by decide) ?_
  refine us_putIM hE hP16 14 hR dX11_readsAll_22 fR_12_263 (Or.inl rfl) rfl rfl (fun I17 s17 hs17 hP17 hF17 => ?_)
  rw [← hs17, bS_eq] at ho
  have hF17 := hF16.tr hF17
  refine us_aload_n hR dX11_readsAll_25 rfl ?_
  refine us_iconstC hR dX11_readsAll_26 (c := 0) (by decide) ?_
  refine us_putIM hE hP17 16 hR dX11_readsAll_27 fR_12_269 (Or.inl rfl) rfl rfl (fun I18 s18 hs18 hP18 hF18 => ?_)
  rw [← hs18, bS_eq] at ho
  have hF18 := hF17.tr hF18
  refine us_aload_n hR dX11_readsAll_30 rfl ?_
  refine us_getR hR dX11_readsAll_31 fR_12_35 hE.2.1 rfl (em_r_19 hE) ?_
  refine us_iconstC hR dX11_readsAll_34 (c := 0) (by decide) ?_
  refine us_iconstC hR dX11_readsAll_35 (c := 0) (by decide) ?_
  have hg := gd_c ho
  rw [gd_e hg] at ho
  refine us_iastoreM hE hP18 (em_q_19 hE) hR dX11_readsAll_36 hg (fun I19 s19 hs19 hP19 hF19 => ?_)
  rw [← hs19, bS_eq] at ho
  have hF19 := hF18.tr hF19
  refine us_aload_n hR dX11_readsAll_37 rfl ?_
  refine us_getR hR dX11_readsAll_38 fR_12_35 hE.2.1 rfl (em_r_19 hE) ?_
  refine us_iconstC hR dX11_readsAll_41 (c := 1) (by decide) ?_
  refine us_iconstC hR dX11_readsAll_42 (c := 0) (by decide) ?_
  have hg := gd_c ho
  rw [gd_e hg] at ho
  refine us_iastoreM hE hP19 (em_q_19 hE) hR dX11_readsAll_43 hg (fun I20 s20 hs20 hP20 hF20 => ?_)
  rw [← hs20, bS_eq] at ho
  have hF20 := hF19.tr hF20
  refine us_aload_n hR dX11_readsAll_44 rfl ?_
  refine us_iconstC hR dX11_readsAll_45 (c := 0) (by decide) ?_
  refine us_putIM hE hP20 22 hR dX11_readsAll_46 fR_12_295 (Or.inl rfl) rfl rfl (fun I21 s21 hs21 hP21 hF21 => ?_)
  rw [← hs21, bS_eq] at ho
  have hF21 := hF20.tr hF21
  refine us_aload_n hR dX11_readsAll_49 rfl ?_
  refine us_iconstC hR dX11_readsAll_50 (c := 0) (by decide) ?_
  refine us_putIM hE hP21 27 hR dX11_readsAll_51 fR_12_308 (Or.inl rfl) rfl rfl (fun I22 s22 hs22 hP22 hF22 => ?_)
  rw [← hs22, bS_eq] at ho
  have hF22 := hF21.tr hF22
  refine us_aload_n hR dX11_readsAll_54 rfl ?_
  refine us_iconstC hR dX11_readsAll_55 (c := 0) (by decide) ?_
  refine us_putIM hE hP22 32 hR dX11_readsAll_56 fR_12_266 (Or.inl rfl) rfl rfl (fun I23 s23 hs23 hP23 hF23 => ?_)
  rw [← hs23, bS_eq] at ho
  have hF23 := hF22.tr hF23
  refine us_aload_n hR dX11_readsAll_59 rfl ?_
  refine us_iconstC hR dX11_readsAll_60 (c := 0) (by decide) ?_
  refine us_putIM hE hP23 33 hR dX11_readsAll_61 fR_12_278 (Or.inl rfl) rfl rfl (fun I24 s24 hs24 hP24 hF24 => ?_)
  rw [← hs24, bS_eq] at ho
  have hF24 := hF23.tr hF24
  refine us_aload_n hR dX11_readsAll_64 rfl ?_
  refine us_iconstC hR dX11_readsAll_65 (c := 0) (by decide) ?_
  refine us_putIM hE hP24 34 hR dX11_readsAll_66 fR_12_285 (Or.inl rfl) rfl rfl (fun I25 s25 hs25 hP25 hF25 => ?_)
  rw [← hs25, bS_eq] at ho
  have hF25 := hF24.tr hF25
  refine us_aload_n hR dX11_readsAll_69 rfl ?_
  refine us_iconstC hR dX11_readsAll_70 (c := 0) (by decide) ?_
  refine us_putIM hE hP25 35 hR dX11_readsAll_71 fR_12_275 (Or.inl rfl) rfl rfl (fun I26 s26 hs26 hP26 hF26 => ?_)
  rw [← hs26, bS_eq] at ho
  have hF26 := hF25.tr hF26
  refine us_aload_n hR dX11_readsAll_74 rfl ?_
  refine us_iconstC hR dX11_readsAll_75 (c := 0) (by decide) ?_
  refine us_putIM hE hP26 38 hR dX11_readsAll_76 fR_12_326 (Or.inl rfl) rfl rfl (fun I27 s27 hs27 hP27 hF27 => ?_)
  rw [← hs27, bS_eq] at ho
  have hF27 := hF26.tr hF27
  refine us_iconstC hR dX11_readsAll_79 (c := 1) (by decide) ?_
  refine us_istore_n hR dX11_readsAll_80 (Nat.le_of_ble_eq_true rfl) ?_
  exact h12055_L81 _ 1  s27 I27 _ _ hP27 hF27 ho
def f_12056_J36  (k0 : Int32) (k1 : Int32) (s : Mx) : Mx × Int32 :=
  bS (mp s 49 (k1 - k0)) fun s1 =>
  if (mf s1 50) = 0 then
    (s1, 1)
  else
    (s1, 0)
def f_12056_J16  (k0 : Int32) (s : Mx) : Mx × Int32 :=
  bS (mp s 50 k0) fun s3 =>
  if (mf s3 49) = 0 then
    f_12056_J36 0 (mf s3 49) s3
  else
    f_12056_J36 1 (mf s3 49) s3
def f_12056  (s : Mx) : Mx × Int32 :=
  if (mf s 49) = 0 then
    f_12056_J16 1 s
  else
    f_12056_J16 (mf s 50) s
theorem sp_12056 {d : Nat} {G : ab_G} {ad : Nat → Nat} {I : Nat → Nat → Int32} {s : Mx} {P : ab_Pq} {X : ab_Xq} (hE : EM G ad) (hP : RepM I ad s)   (h : ∀ I1 o, o = f_12056 s → (o.2 = 0 ∨ o.2 = 1) → RepM I1 ad o.1 → FrM ad I I1 → P (gW G I1) (some (.int o.2))) : ab_Gam (d + 1) 12056 [.ref (ad 0)] (gW G I) P X := by
  obtain ⟨o, ho⟩ : ∃ o, o = f_12056 s := ⟨_, rfl⟩
  have h2 := fun I1 => h I1 o ho
  have hF : FrM ad I I := FrM_rfl
  unfold f_12056 at ho
  refine ab_enter (I := i12056) rfl (Nat.le_of_ble_eq_true rfl) (fun R hR => ?_)
  have h12056_J36 : ∀ (k0 : Int32) (k1 : Int32)  (s : Mx) (Ia : Nat → Nat → Int32) (bc bs : Nat) (hPa : RepM Ia ad s) (hFa : FrM ad I Ia) (ho : o = f_12056_J36 k0 k1 s), R 36 [some (.ref (ad 0))] [.int k0, .int k1, .ref (ad 0)] (gW G Ia) bc bs := by
    intro k0 k1  s Ia bc bs  hPa hFa ho
    unfold f_12056_J36 at ho
    refine us_isub hR dX11_burns_36 ?_
    refine us_putIM hE hPa 49 hR dX11_burns_37 fR_12_410 (Or.inl rfl) rfl rfl (fun I1 s1 hs1 hP1 hF1 => ?_)
    rw [← hs1, bS_eq] at ho
    have hF1 := hFa.tr hF1
    refine us_aload_n hR dX11_burns_40 rfl ?_
    refine us_getIx hR dX11_burns_41 fR_12_413 hE.2.1 rfl (RepM_f hP1 50) ?_
    refine us_if_ne hR dX11_burns_44 51 (by decide) (fun c2 => ?_) (fun c2 => ?_)
    · rw [if_neg c2] at ho
      refine us_iconstC hR dX11_burns_51 (c := 0) (by decide) ?_
      refine us_iret hR dX11_burns_52 rfl (nar01 (Or.inl rfl)) ?_
      subst ho
      exact h2 _ (Or.inl rfl) hP1 hF1
    · rw [if_pos c2] at ho
      refine us_iconstC hR dX11_burns_47 (c := 1) (by decide) ?_
      refine us_goto hR dX11_burns_48 52 (by decide) ?_
      refine us_iret hR dX11_burns_52 rfl (nar01 (Or.inr rfl)) ?_
      subst ho
      exact h2 _ (Or.inr rfl) hP1 hF1
  have h12056_J16 : ∀ (k0 : Int32)  (s : Mx) (Ia : Nat → Nat → Int32) (bc bs : Nat) (hPa : RepM Ia ad s) (hFa : FrM ad I Ia) (ho : o = f_12056_J16 k0 s), R 16 [some (.ref (ad 0))] [.int k0, .ref (ad 0)] (gW G Ia) bc bs := by
    intro k0  s Ia bc bs  hPa hFa ho
    unfold f_12056_J16 at ho
    refine us_putIM hE hPa 50 hR dX11_burns_16 fR_12_413 (Or.inl rfl) rfl rfl (fun I3 s3 hs3 hP3 hF3 => ?_)
    rw [← hs3, bS_eq] at ho
    have hF3 := hFa.tr hF3
    refine us_aload_n hR dX11_burns_19 rfl ?_
    refine us_dup hR dX11_burns_20 rfl ?_
    refine us_getIx hR dX11_burns_21 fR_12_410 hE.2.1 rfl (RepM_f hP3 49) ?_
    refine us_aload_n hR dX11_burns_24 rfl ?_
    refine us_getIx hR dX11_burns_25 fR_12_410 hE.2.1 rfl (RepM_f hP3 49) ?_
    refine us_if_ne hR dX11_burns_28 35 (by decide) (fun c4 => ?_) (fun c4 => ?_)
    · rw [if_neg c4] at ho
      refine us_iconstC hR dX11_burns_35 (c := 1) (by decide) ?_
      exact h12056_J36 1 (mf s3 49)  s3 I3 _ _ hP3 hF3 ho
    · rw [if_pos c4] at ho
      refine us_iconstC hR dX11_burns_31 (c := 0) (by decide) ?_
      refine us_goto hR dX11_burns_32 36 (by decide) ?_
      exact h12056_J36 0 (mf s3 49)  s3 I3 _ _ hP3 hF3 ho
  refine us_aload_n hR dX11_burns_0 rfl ?_
  refine us_aload_n hR dX11_burns_1 rfl ?_
  refine us_getIx hR dX11_burns_2 fR_12_410 hE.2.1 rfl (RepM_f hP 49) ?_
  refine us_if_ne hR dX11_burns_5 12 (by decide) (fun c5 => ?_) (fun c5 => ?_)
  · rw [if_neg c5] at ho
    refine us_aload_n hR dX11_burns_12 rfl ?_
    refine us_getIx hR dX11_burns_13 fR_12_413 hE.2.1 rfl (RepM_f hP 50) ?_
    exact h12056_J16 (mf s 50)  s I _ _ hP hF ho
  · rw [if_pos c5] at ho
    refine us_iconstC hR dX11_burns_8 (c := 1) (by decide) ?_
    refine us_goto hR dX11_burns_9 16 (by decide) ?_
    exact h12056_J16 1  s I _ _ hP hF ho
def f_12057 (x0 : Int32) (s : Mx) : Option Mx :=
  gd (vi (mf s 53) 1300) <|
  bS (ms s 30 (mf s 53) x0) fun s1 =>
  bS (mp s1 53 ((mf s1 53) + 1)) fun s2 =>
  some s2
theorem sp_12057 {d : Nat} {G : ab_G} {ad : Nat → Nat} {I : Nat → Nat → Int32} {s : Mx} {P : ab_Pq} {X : ab_Xq} (hE : EM G ad) (hP : RepM I ad s) {x0 : Int32}  {o : Mx} (ho : f_12057 x0 s = some o) (h : ∀ I1, RepM I1 ad o → FrM ad I I1 → P (gW G I1) none) : ab_Gam (d + 1) 12057 [.ref (ad 0), .int x0] (gW G I) P X := by
  have h2 := h
  have hF : FrM ad I I := FrM_rfl
  unfold f_12057 at ho
  refine ab_enter (I := i12057) rfl (Nat.le_of_ble_eq_true rfl) (fun R hR => ?_)
  refine us_aload_n hR dX11_push_0 rfl ?_
  refine us_getR hR dX11_push_1 fR_12_99 hE.2.1 rfl (em_r_54 hE) ?_
  refine us_aload_n hR dX11_push_4 rfl ?_
  refine us_getIx hR dX11_push_5 fR_12_416 hE.2.1 rfl (RepM_f hP 53) ?_
  refine us_iload_n hR dX11_push_8 rfl ?_
  have hg := gd_c ho
  rw [gd_e hg] at ho
  refine us_iastoreM hE hP (em_q_54 hE) hR dX11_push_9 hg (fun I1 s1 hs1 hP1 hF1 => ?_)
  rw [← hs1, bS_eq] at ho
  have hF1 := hF.tr hF1
  refine us_aload_n hR dX11_push_10 rfl ?_
  refine us_dup hR dX11_push_11 rfl ?_
  refine us_getIx hR dX11_push_12 fR_12_416 hE.2.1 rfl (RepM_f hP1 53) ?_
  refine us_iconstC hR dX11_push_15 (c := 1) (by decide) ?_
  refine us_iadd hR dX11_push_16 ?_
  refine us_putIM hE hP1 53 hR dX11_push_17 fR_12_416 (Or.inl rfl) rfl rfl (fun I2 s2 hs2 hP2 hF2 => ?_)
  rw [← hs2, bS_eq] at ho
  have hF2 := hF1.tr hF2
  refine us_vret hR dX11_push_20 rfl ?_
  cases ho
  exact h2 _ hP2 hF2
def f_12058  (s : Mx) : Option (Mx × Int32) :=
  bS (mp s 53 ((mf s 53) - 1)) fun s1 =>
  gd (vi (mf s1 53) 1300) <|
  some (s1, (mg s1 30 (mf s1 53)))
theorem sp_12058 {d : Nat} {G : ab_G} {ad : Nat → Nat} {I : Nat → Nat → Int32} {s : Mx} {P : ab_Pq} {X : ab_Xq} (hE : EM G ad) (hP : RepM I ad s)   {o : Mx × Int32} (ho : f_12058 s = some o) (h : ∀ I1, RepM I1 ad o.1 → FrM ad I I1 → P (gW G I1) (some (.int o.2))) : ab_Gam (d + 1) 12058 [.ref (ad 0)] (gW G I) P X := by
  have h2 := h
  have hF : FrM ad I I := FrM_rfl
  unfold f_12058 at ho
  refine ab_enter (I := i12058) rfl (Nat.le_of_ble_eq_true rfl) (fun R hR => ?_)
  refine us_aload_n hR dX11_pop_0 rfl ?_
  refine us_dup hR dX11_pop_1 rfl ?_
  refine us_getIx hR dX11_pop_2 fR_12_416 hE.2.1 rfl (RepM_f hP 53) ?_
  refine us_iconstC hR dX11_pop_5 (c := 1) (by decide) ?_
  refine us_isub hR dX11_pop_6 ?_
  refine us_putIM hE hP 53 hR dX11_pop_7 fR_12_416 (Or.inl rfl) rfl rfl (fun I1 s1 hs1 hP1 hF1 => ?_)
  rw [← hs1, bS_eq] at ho
  have hF1 := hF.tr hF1
  refine us_aload_n hR dX11_pop_10 rfl ?_
  refine us_getR hR dX11_pop_11 fR_12_99 hE.2.1 rfl (em_r_54 hE) ?_
  refine us_aload_n hR dX11_pop_14 rfl ?_
  refine us_getIx hR dX11_pop_15 fR_12_416 hE.2.1 rfl (RepM_f hP1 53) ?_
  have hg := gd_c ho
  rw [gd_e hg] at ho
  refine us_ialoadM hE hP1 (em_q_54 hE) hR dX11_pop_18 hg ?_
  refine us_iret hR dX11_pop_19 rfl rfl ?_
  cases ho
  exact h2 _ hP1 hF1
def f_12059_J16  (l1 : Int64) (s : Mx) : Option Mx :=
  bS (mp s 50 2) fun s1 =>
  some s1
def f_12059 (x0 : Int64) (s : Mx) : Option Mx :=
  if 0 < (lg_cmp x0 2147483647) then
    f_12059_J16 x0 s
  else
    if 0 ≤ (lg_cmp x0 (-2147483648)) then
      bOv (f_12057 x0.toInt32 s) fun s4 =>
      some s4
    else
      f_12059_J16 x0 s
theorem sp_12059 {d : Nat} {G : ab_G} {ad : Nat → Nat} {I : Nat → Nat → Int32} {s : Mx} {P : ab_Pq} {X : ab_Xq} (hE : EM G ad) (hP : RepM I ad s) {x0 : Int64}  {o : Mx} (ho : f_12059 x0 s = some o) (h : ∀ I1, RepM I1 ad o → FrM ad I I1 → P (gW G I1) none) : ab_Gam (d + 2) 12059 [.ref (ad 0), .long x0] (gW G I) P X := by
  have h2 := h
  have hF : FrM ad I I := FrM_rfl
  unfold f_12059 at ho
  refine ab_enter (I := i12059) rfl (Nat.le_of_ble_eq_true rfl) (fun R hR => ?_)
  have h12059_J16 : ∀ (l1 : Int64)  (s : Mx) (Ia : Nat → Nat → Int32) (bc bs : Nat) (hPa : RepM Ia ad s) (hFa : FrM ad I Ia) (ho : f_12059_J16 l1 s = some o), R 16 [some (.ref (ad 0)), some (.long l1), none] [] (gW G Ia) bc bs := by
    intro l1  s Ia bc bs  hPa hFa ho
    unfold f_12059_J16 at ho
    refine us_aload_n hR dX11_pushes_16 rfl ?_
    refine us_iconstC hR dX11_pushes_17 (c := 2) (by decide) ?_
    refine us_putIM hE hPa 50 hR dX11_pushes_18 fR_12_413 (Or.inl rfl) rfl rfl (fun I1 s1 hs1 hP1 hF1 => ?_)
    rw [← hs1, bS_eq] at ho
    have hF1 := hFa.tr hF1
    refine us_goto hR dX11_pushes_21 30 (by decide) ?_
    refine us_vret hR dX11_pushes_30 rfl ?_
    cases ho
    exact h2 _ hP1 hF1
  refine us_lload_n hR dX11_pushes_0 rfl ?_
  refine us_ldc2_w hR dX11_pushes_1 (v := 2147483647) (by decide +kernel) ?_
  refine us_lcmp hR dX11_pushes_4 ?_
  refine us_if_gt hR dX11_pushes_5 16 (by decide) (fun c2 => ?_) (fun c2 => ?_)
  · rw [if_pos c2] at ho
    exact h12059_J16 x0  s I _ _ hP hF ho
  · rw [if_neg c2] at ho
    refine us_lload_n hR dX11_pushes_8 rfl ?_
    refine us_ldc2_w hR dX11_pushes_9 (v := (-2147483648)) (by decide +kernel) ?_
    refine us_lcmp hR dX11_pushes_12 ?_
    refine us_if_ge hR dX11_pushes_13 24 (by decide) (fun c3 => ?_) (fun c3 => ?_)
    · rw [if_pos c3] at ho
      refine us_aload_n hR dX11_pushes_24 rfl ?_
      refine us_lload_n hR dX11_pushes_25 rfl ?_
      refine us_l2i hR dX11_pushes_26 ?_
      refine us_callV hR dX11_pushes_27 (y := 12057) (by decide +kernel) (by decide) (J := i12057) rfl rfl rfl rfl hE.2.1 rfl (Nat.le_of_ble_eq_true rfl) (Nat.zero_le _) (Nat.zero_le _) ?_
      obtain ⟨s4, hs4⟩ := bOv_ex ho
      replace ho := bOv_go ho hs4
      refine sp_12057 hE hP  hs4 (fun I4 hP4 hF4 => ?_)
      have hF4 := hF.tr hF4
      refine us_vret hR dX11_pushes_30 rfl ?_
      cases ho
      exact h2 _ hP4 hF4
    · rw [if_neg c3] at ho
      exact h12059_J16 x0  s I _ _ hP hF ho
def f_12060 (x0 : Int32) (s : Mx) : Int32 :=
  (f_12002 x0.toInt64 0 31 s)
theorem sp_12060 {d : Nat} {G : ab_G} {ad : Nat → Nat} {I : Nat → Nat → Int32} {s : Mx} {P : ab_Pq} {X : ab_Xq} (hE : EM G ad) (hP : RepM I ad s) {x0 : Int32}  (h : (f_12060 x0 s = 0 ∨ f_12060 x0 s = 1) → P (gW G I) (some (.int (f_12060 x0 s)))) : ab_Gam (d + 2) 12060 [.int x0] (gW G I) P X := by
  obtain ⟨o, ho⟩ : ∃ o, o = f_12060 x0 s := ⟨_, rfl⟩
  rw [← ho] at h
  have h2 := h
  have hF : FrM ad I I := FrM_rfl
  unfold f_12060 at ho
  refine ab_enter (I := i12060) rfl (Nat.le_of_ble_eq_true rfl) (fun R hR => ?_)
  refine us_iload_n hR dX11_isCell_0 rfl ?_
  refine us_i2l hR dX11_isCell_1 ?_
  refine us_lconstC hR dX11_isCell_2 (c := 0) (by decide) ?_
  refine us_ldc2_w hR dX11_isCell_3 (v := 31) (by decide +kernel) ?_
  refine us_callS hR dX11_isCell_6 (y := 12002) (by decide +kernel) (by decide) (J := i12002) rfl rfl rfl rfl (rest := _) (Nat.le_of_ble_eq_true rfl) (Nat.zero_le _) (Nat.zero_le _) ?_
  refine sp_12002 hE hP  (fun hb1 => ?_)
  refine us_iret hR dX11_isCell_9 rfl (nar01 hb1) ?_
  subst ho
  exact h2 hb1 
def f_12061 (x0 : Int32) (s : Mx) : Option Mx :=
  bO (f_12058 s) fun s1 r1 =>
  if x0 = 12 then
    bOv (f_12059 (-r1.toInt64) s1) fun s11 =>
    some s11
  else
    if x0 = 24 then
      if r1 = 0 then
        bOv (f_12057 1 s1) fun s10 =>
        some s10
      else
        bOv (f_12057 0 s1) fun s9 =>
        some s9
    else
      if (f_12060 r1 s1) = 0 then
        bS (mp s1 50 4) fun s6 =>
        some s6
      else
        gd (vi r1 32) <|
        bOv (f_12057 (mg s1 34 r1) s1) fun s7 =>
        some s7
theorem sp_12061 {d : Nat} {G : ab_G} {ad : Nat → Nat} {I : Nat → Nat → Int32} {s : Mx} {P : ab_Pq} {X : ab_Xq} (hE : EM G ad) (hP : RepM I ad s) {x0 : Int32}  {o : Mx} (ho : f_12061 x0 s = some o) (h : ∀ I1, RepM I1 ad o → FrM ad I I1 → P (gW G I1) none) : ab_Gam (d + 3) 12061 [.ref (ad 0), .int x0] (gW G I) P X := by
  have h2 := h
  have hF : FrM ad I I := FrM_rfl
  unfold f_12061 at ho
  refine ab_enter (I := i12061) rfl (Nat.le_of_ble_eq_true rfl) (fun R hR => ?_)
  refine us_aload_n hR dX11_one_0 rfl ?_
  refine us_callV hR dX11_one_1 (y := 12058) (by decide +kernel) (by decide) (J := i12058) rfl rfl rfl rfl hE.2.1 rfl (Nat.le_of_ble_eq_true rfl) (Nat.zero_le _) (Nat.zero_le _) ?_
  obtain ⟨q1, hs1⟩ := bO_ex ho
  obtain ⟨s1, r1⟩ := q1
  replace ho := bO_go ho hs1
  refine sp_12058 hE hP  hs1 (fun I1 hP1 hF1 => ?_)
  have hF1 := hF.tr hF1
  refine us_istore_n hR dX11_one_4 (Nat.le_of_ble_eq_true rfl) ?_
  refine us_iload_n hR dX11_one_5 rfl ?_
  refine us_bipushC hR dX11_one_6 (c := 12) (by decide) ?_
  refine us_icmp_ne hR dX11_one_8 21 (by decide) (fun c2 => ?_) (fun c2 => ?_)
  · rw [if_neg c2] at ho
    refine us_iload_n hR dX11_one_21 rfl ?_
    refine us_bipushC hR dX11_one_22 (c := 24) (by decide) ?_
    refine us_icmp_ne hR dX11_one_24 43 (by decide) (fun c3 => ?_) (fun c3 => ?_)
    · rw [if_neg c3] at ho
      refine us_iload_n hR dX11_one_43 rfl ?_
      refine us_callS hR dX11_one_44 (y := 12060) (by decide +kernel) (by decide) (J := i12060) rfl rfl rfl rfl (rest := _) (Nat.le_of_ble_eq_true rfl) (Nat.zero_le _) (Nat.zero_le _) ?_
      refine sp_12060 hE hP1  (fun hb4 => ?_)
      refine us_if_eq hR dX11_one_47 63 (by decide) (fun c5 => ?_) (fun c5 => ?_)
      · rw [if_pos c5] at ho
        refine us_aload_n hR dX11_one_63 rfl ?_
        refine us_iconstC hR dX11_one_64 (c := 4) (by decide) ?_
        refine us_putIM hE hP1 50 hR dX11_one_65 fR_12_413 (Or.inl rfl) rfl rfl (fun I6 s6 hs6 hP6 hF6 => ?_)
        rw [← hs6, bS_eq] at ho
        have hF6 := hF1.tr hF6
        refine us_vret hR dX11_one_68 rfl ?_
        cases ho
        exact h2 _ hP6 hF6
      · rw [if_neg c5] at ho
        refine us_aload_n hR dX11_one_50 rfl ?_
        refine us_aload_n hR dX11_one_51 rfl ?_
        refine us_getR hR dX11_one_52 fR_12_111 hE.2.1 rfl (em_r_59 hE) ?_
        refine us_iload_n hR dX11_one_55 rfl ?_
        have hg := gd_c ho
        rw [gd_e hg] at ho
        refine us_ialoadM hE hP1 (em_q_59 hE) hR dX11_one_56 hg ?_
        refine us_callV hR dX11_one_57 (y := 12057) (by decide +kernel) (by decide) (J := i12057) rfl rfl rfl rfl hE.2.1 rfl (Nat.le_of_ble_eq_true rfl) (Nat.zero_le _) (Nat.zero_le _) ?_
        obtain ⟨s7, hs7⟩ := bOv_ex ho
        replace ho := bOv_go ho hs7
        refine sp_12057 hE hP1  hs7 (fun I7 hP7 hF7 => ?_)
        have hF7 := hF1.tr hF7
        refine us_goto hR dX11_one_60 68 (by decide) ?_
        refine us_vret hR dX11_one_68 rfl ?_
        cases ho
        exact h2 _ hP7 hF7
    · rw [if_pos c3] at ho
      refine us_aload_n hR dX11_one_27 rfl ?_
      refine us_iload_n hR dX11_one_28 rfl ?_
      refine us_if_ne hR dX11_one_29 36 (by decide) (fun c8 => ?_) (fun c8 => ?_)
      · rw [if_neg c8] at ho
        refine us_iconstC hR dX11_one_36 (c := 0) (by decide) ?_
        refine us_callV hR dX11_one_37 (y := 12057) (by decide +kernel) (by decide) (J := i12057) rfl rfl rfl rfl hE.2.1 rfl (Nat.le_of_ble_eq_true rfl) (Nat.zero_le _) (Nat.zero_le _) ?_
        obtain ⟨s9, hs9⟩ := bOv_ex ho
        replace ho := bOv_go ho hs9
        refine sp_12057 hE hP1  hs9 (fun I9 hP9 hF9 => ?_)
        have hF9 := hF1.tr hF9
        refine us_goto hR dX11_one_40 68 (by decide) ?_
        refine us_vret hR dX11_one_68 rfl ?_
        cases ho
        exact h2 _ hP9 hF9
      · rw [if_pos c8] at ho
        refine us_iconstC hR dX11_one_32 (c := 1) (by decide) ?_
        refine us_goto hR dX11_one_33 37 (by decide) ?_
        refine us_callV hR dX11_one_37 (y := 12057) (by decide +kernel) (by decide) (J := i12057) rfl rfl rfl rfl hE.2.1 rfl (Nat.le_of_ble_eq_true rfl) (Nat.zero_le _) (Nat.zero_le _) ?_
        obtain ⟨s10, hs10⟩ := bOv_ex ho
        replace ho := bOv_go ho hs10
        refine sp_12057 hE hP1  hs10 (fun I10 hP10 hF10 => ?_)
        have hF10 := hF1.tr hF10
        refine us_goto hR dX11_one_40 68 (by decide) ?_
        refine us_vret hR dX11_one_68 rfl ?_
        cases ho
        exact h2 _ hP10 hF10
  · rw [if_pos c2] at ho
    refine us_aload_n hR dX11_one_11 rfl ?_
    refine us_iload_n hR dX11_one_12 rfl ?_
    refine us_i2l hR dX11_one_13 ?_
    refine us_lneg hR dX11_one_14 ?_
    refine us_callV hR dX11_one_15 (y := 12059) (by decide +kernel) (by decide) (J := i12059) rfl rfl rfl rfl hE.2.1 rfl (Nat.le_of_ble_eq_true rfl) (Nat.zero_le _) (Nat.zero_le _) ?_
    obtain ⟨s11, hs11⟩ := bOv_ex ho
    replace ho := bOv_go ho hs11
    refine sp_12059 hE hP1  hs11 (fun I11 hP11 hF11 => ?_)
    have hF11 := hF1.tr hF11
    refine us_goto hR dX11_one_18 68 (by decide) ?_
    refine us_vret hR dX11_one_68 rfl ?_
    cases ho
    exact h2 _ hP11 hF11
def f_12063 (x0 : Int32) (x1 : Int64) (x2 : Int64) (s : Mx) : Option Mx :=
  if (lg_cmp x2 0) = 0 then
    bS (mp s 50 3) fun s5 =>
    some s5
  else
    if x0 = 14 then
      gd (¬ (x2 : Int64) = 0) <|
      bOv (f_12059 (x1 / x2) s) fun s4 =>
      some s4
    else
      gd (¬ (x2 : Int64) = 0) <|
      bOv (f_12059 (x1 - x1 / x2 * x2) s) fun s3 =>
      some s3
theorem sp_12063 {d : Nat} {G : ab_G} {ad : Nat → Nat} {I : Nat → Nat → Int32} {s : Mx} {P : ab_Pq} {X : ab_Xq} (hE : EM G ad) (hP : RepM I ad s) {x0 : Int32} {x1 : Int64} {x2 : Int64}  {o : Mx} (ho : f_12063 x0 x1 x2 s = some o) (h : ∀ I1, RepM I1 ad o → FrM ad I I1 → P (gW G I1) none) : ab_Gam (d + 3) 12063 [.ref (ad 0), .int x0, .long x1, .long x2] (gW G I) P X := by
  have h2 := h
  have hF : FrM ad I I := FrM_rfl
  unfold f_12063 at ho
  refine ab_enter (I := i12063) rfl (Nat.le_of_ble_eq_true rfl) (fun R hR => ?_)
  refine us_lload hR dX11_divides_0 rfl ?_
  refine us_lconstC hR dX11_divides_2 (c := 0) (by decide) ?_
  refine us_lcmp hR dX11_divides_3 ?_
  refine us_if_ne hR dX11_divides_4 15 (by decide) (fun c1 => ?_) (fun c1 => ?_)
  · rw [if_neg c1] at ho
    refine us_aload_n hR dX11_divides_15 rfl ?_
    refine us_iload_n hR dX11_divides_16 rfl ?_
    refine us_bipushC hR dX11_divides_17 (c := 14) (by decide) ?_
    refine us_icmp_ne hR dX11_divides_19 29 (by decide) (fun c2 => ?_) (fun c2 => ?_)
    · rw [if_neg c2] at ho
      refine us_lload_n hR dX11_divides_29 rfl ?_
      refine us_lload hR dX11_divides_30 rfl ?_
      have hg := gd_c ho
      rw [gd_e hg] at ho
      refine us_lrem hR dX11_divides_32 hg ?_
      refine us_callV hR dX11_divides_33 (y := 12059) (by decide +kernel) (by decide) (J := i12059) rfl rfl rfl rfl hE.2.1 rfl (Nat.le_of_ble_eq_true rfl) (Nat.zero_le _) (Nat.zero_le _) ?_
      obtain ⟨s3, hs3⟩ := bOv_ex ho
      replace ho := bOv_go ho hs3
      refine sp_12059 hE hP  hs3 (fun I3 hP3 hF3 => ?_)
      have hF3 := hF.tr hF3
      refine us_vret hR dX11_divides_36 rfl ?_
      cases ho
      exact h2 _ hP3 hF3
    · rw [if_pos c2] at ho
      refine us_lload_n hR dX11_divides_22 rfl ?_
      refine us_lload hR dX11_divides_23 rfl ?_
      have hg := gd_c ho
      rw [gd_e hg] at ho
      refine us_ldiv hR dX11_divides_25 hg ?_
      refine us_goto hR dX11_divides_26 33 (by decide) ?_
      refine us_callV hR dX11_divides_33 (y := 12059) (by decide +kernel) (by decide) (J := i12059) rfl rfl rfl rfl hE.2.1 rfl (Nat.le_of_ble_eq_true rfl) (Nat.zero_le _) (Nat.zero_le _) ?_
      obtain ⟨s4, hs4⟩ := bOv_ex ho
      replace ho := bOv_go ho hs4
      refine sp_12059 hE hP  hs4 (fun I4 hP4 hF4 => ?_)
      have hF4 := hF.tr hF4
      refine us_vret hR dX11_divides_36 rfl ?_
      cases ho
      exact h2 _ hP4 hF4
  · rw [if_pos c1] at ho
    refine us_aload_n hR dX11_divides_7 rfl ?_
    refine us_iconstC hR dX11_divides_8 (c := 3) (by decide) ?_
    refine us_putIM hE hP 50 hR dX11_divides_9 fR_12_413 (Or.inl rfl) rfl rfl (fun I5 s5 hs5 hP5 hF5 => ?_)
    rw [← hs5, bS_eq] at ho
    have hF5 := hF.tr hF5
    refine us_goto hR dX11_divides_12 36 (by decide) ?_
    refine us_vret hR dX11_divides_36 rfl ?_
    cases ho
    exact h2 _ hP5 hF5
def f_12062_J219  (l1 : Int32) (l2 : Int64) (l4 : Int64) (s : Mx) : Option Mx :=
  bOv (f_12063 l1 l4 l2 s) fun s1 =>
  some s1
def f_12062 (x0 : Int32) (s : Mx) : Option Mx :=
  bO (f_12058 s) fun s2 r2 =>
  bO (f_12058 s2) fun s3 r3 =>
  if x0 = 11 then
    bOv (f_12059 (r3.toInt64 + r2.toInt64) s3) fun s5 =>
    some s5
  else if x0 = 12 then
    bOv (f_12059 (r3.toInt64 - r2.toInt64) s3) fun s6 =>
    some s6
  else if x0 = 13 then
    bOv (f_12059 (r3.toInt64 * r2.toInt64) s3) fun s7 =>
    some s7
  else if x0 = 14 then
    f_12062_J219 x0 r2.toInt64 r3.toInt64 s3
  else if x0 = 15 then
    f_12062_J219 x0 r2.toInt64 r3.toInt64 s3
  else if x0 = 16 then
    if 0 ≤ (lg_cmp r3.toInt64 r2.toInt64) then
      bOv (f_12057 0 s3) fun s9 =>
      some s9
    else
      bOv (f_12057 1 s3) fun s10 =>
      some s10
  else if x0 = 17 then
    if 0 < (lg_cmp r3.toInt64 r2.toInt64) then
      bOv (f_12057 0 s3) fun s12 =>
      some s12
    else
      bOv (f_12057 1 s3) fun s13 =>
      some s13
  else if x0 = 18 then
    if (lg_cmp r3.toInt64 r2.toInt64) ≤ 0 then
      bOv (f_12057 0 s3) fun s15 =>
      some s15
    else
      bOv (f_12057 1 s3) fun s16 =>
      some s16
  else if x0 = 19 then
    if (lg_cmp r3.toInt64 r2.toInt64) < 0 then
      bOv (f_12057 0 s3) fun s18 =>
      some s18
    else
      bOv (f_12057 1 s3) fun s19 =>
      some s19
  else if x0 = 20 then
    if (lg_cmp r3.toInt64 r2.toInt64) = 0 then
      bOv (f_12057 1 s3) fun s22 =>
      some s22
    else
      bOv (f_12057 0 s3) fun s21 =>
      some s21
  else if x0 = 21 then
    if (lg_cmp r3.toInt64 r2.toInt64) = 0 then
      bOv (f_12057 0 s3) fun s24 =>
      some s24
    else
      bOv (f_12057 1 s3) fun s25 =>
      some s25
  else
    f_12062_J219 x0 r2.toInt64 r3.toInt64 s3
theorem sp_12062 {d : Nat} {G : ab_G} {ad : Nat → Nat} {I : Nat → Nat → Int32} {s : Mx} {P : ab_Pq} {X : ab_Xq} (hE : EM G ad) (hP : RepM I ad s) {x0 : Int32}  {o : Mx} (ho : f_12062 x0 s = some o) (h : ∀ I1, RepM I1 ad o → FrM ad I I1 → P (gW G I1) none) : ab_Gam (d + 4) 12062 [.ref (ad 0), .int x0] (gW G I) P X := by
  have h2 := h
  have hF : FrM ad I I := FrM_rfl
  unfold f_12062 at ho
  refine ab_enter (I := i12062) rfl (Nat.le_of_ble_eq_true rfl) (fun R hR => ?_)
  have h12062_J219 : ∀ (l1 : Int32) (l2 : Int64) (l4 : Int64)  (s : Mx) (Ia : Nat → Nat → Int32) (bc bs : Nat) (hPa : RepM Ia ad s) (hFa : FrM ad I Ia) (ho : f_12062_J219 l1 l2 l4 s = some o), R 219 [some (.ref (ad 0)), some (.int l1), some (.long l2), none, some (.long l4), none] [] (gW G Ia) bc bs := by
    intro l1 l2 l4  s Ia bc bs  hPa hFa ho
    unfold f_12062_J219 at ho
    refine us_aload_n hR dX11_two_219 rfl ?_
    refine us_iload_n hR dX11_two_220 rfl ?_
    refine us_lload hR dX11_two_221 rfl ?_
    refine us_lload_n hR dX11_two_223 rfl ?_
    refine us_callV hR dX11_two_224 (y := 12063) (by decide +kernel) (by decide) (J := i12063) rfl rfl rfl rfl hE.2.1 rfl (Nat.le_of_ble_eq_true rfl) (Nat.zero_le _) (Nat.zero_le _) ?_
    obtain ⟨s1, hs1⟩ := bOv_ex ho
    replace ho := bOv_go ho hs1
    refine sp_12063 hE hPa  hs1 (fun I1 hP1 hF1 => ?_)
    have hF1 := hFa.tr hF1
    refine us_vret hR dX11_two_227 rfl ?_
    cases ho
    exact h2 _ hP1 hF1
  refine us_aload_n hR dX11_two_0 rfl ?_
  refine us_callV hR dX11_two_1 (y := 12058) (by decide +kernel) (by decide) (J := i12058) rfl rfl rfl rfl hE.2.1 rfl (Nat.le_of_ble_eq_true rfl) (Nat.zero_le _) (Nat.zero_le _) ?_
  obtain ⟨q2, hs2⟩ := bO_ex ho
  obtain ⟨s2, r2⟩ := q2
  replace ho := bO_go ho hs2
  refine sp_12058 hE hP  hs2 (fun I2 hP2 hF2 => ?_)
  have hF2 := hF.tr hF2
  refine us_i2l hR dX11_two_4 ?_
  refine us_lstore_n hR dX11_two_5 (Nat.le_of_ble_eq_true rfl) ?_
  refine us_aload_n hR dX11_two_6 rfl ?_
  refine us_callV hR dX11_two_7 (y := 12058) (by decide +kernel) (by decide) (J := i12058) rfl rfl rfl rfl hE.2.1 rfl (Nat.le_of_ble_eq_true rfl) (Nat.zero_le _) (Nat.zero_le _) ?_
  obtain ⟨q3, hs3⟩ := bO_ex ho
  obtain ⟨s3, r3⟩ := q3
  replace ho := bO_go ho hs3
  refine sp_12058 hE hP2  hs3 (fun I3 hP3 hF3 => ?_)
  have hF3 := hF2.tr hF3
  refine us_i2l hR dX11_two_10 ?_
  refine us_lstore hR dX11_two_11 (Nat.le_of_ble_eq_true rfl) ?_
  refine us_iload_n hR dX11_two_13 rfl ?_
  refine us_tsw hR dX11_two_14 (fun c4 => ⟨by decide, ?_⟩) (by decide) ⟨fun c4 => ⟨by decide, ?_⟩, fun c4 => ⟨by decide, ?_⟩, fun c4 => ⟨by decide, ?_⟩, fun c4 => ⟨by decide, ?_⟩, fun c4 => ⟨by decide, ?_⟩, fun c4 => ⟨by decide, ?_⟩, fun c4 => ⟨by decide, ?_⟩, fun c4 => ⟨by decide, ?_⟩, fun c4 => ⟨by decide, ?_⟩, fun c4 => ⟨by decide, ?_⟩, fun c4 => ⟨by decide, ?_⟩, trivial⟩
  · rw [if_neg (i_sw_d (v := 11) c4 (by decide)), if_neg (i_sw_d (v := 12) c4 (by decide)), if_neg (i_sw_d (v := 13) c4 (by decide)), if_neg (i_sw_d (v := 14) c4 (by decide)), if_neg (i_sw_d (v := 15) c4 (by decide)), if_neg (i_sw_d (v := 16) c4 (by decide)), if_neg (i_sw_d (v := 17) c4 (by decide)), if_neg (i_sw_d (v := 18) c4 (by decide)), if_neg (i_sw_d (v := 19) c4 (by decide)), if_neg (i_sw_d (v := 20) c4 (by decide)), if_neg (i_sw_d (v := 21) c4 (by decide))] at ho
    exact h12062_J219 x0 r2.toInt64 r3.toInt64  s3 I3 _ _ hP3 hF3 ho
  · rw [if_pos (i_sw (v := 11) c4)] at ho
    refine us_aload_n hR dX11_two_72 rfl ?_
    refine us_lload hR dX11_two_73 rfl ?_
    refine us_lload_n hR dX11_two_75 rfl ?_
    refine us_ladd hR dX11_two_76 ?_
    refine us_callV hR dX11_two_77 (y := 12059) (by decide +kernel) (by decide) (J := i12059) rfl rfl rfl rfl hE.2.1 rfl (Nat.le_of_ble_eq_true rfl) (Nat.zero_le _) (Nat.zero_le _) ?_
    obtain ⟨s5, hs5⟩ := bOv_ex ho
    replace ho := bOv_go ho hs5
    refine sp_12059 hE hP3  hs5 (fun I5 hP5 hF5 => ?_)
    have hF5 := hF3.tr hF5
    refine us_goto hR dX11_two_80 227 (by decide) ?_
    refine us_vret hR dX11_two_227 rfl ?_
    cases ho
    exact h2 _ hP5 hF5
  · rw [if_neg (i_sw_x (v := 12) (w := 11) c4 (by decide)), if_pos (i_sw (v := 12) c4)] at ho
    refine us_aload_n hR dX11_two_83 rfl ?_
    refine us_lload hR dX11_two_84 rfl ?_
    refine us_lload_n hR dX11_two_86 rfl ?_
    refine us_lsub hR dX11_two_87 ?_
    refine us_callV hR dX11_two_88 (y := 12059) (by decide +kernel) (by decide) (J := i12059) rfl rfl rfl rfl hE.2.1 rfl (Nat.le_of_ble_eq_true rfl) (Nat.zero_le _) (Nat.zero_le _) ?_
    obtain ⟨s6, hs6⟩ := bOv_ex ho
    replace ho := bOv_go ho hs6
    refine sp_12059 hE hP3  hs6 (fun I6 hP6 hF6 => ?_)
    have hF6 := hF3.tr hF6
    refine us_goto hR dX11_two_91 227 (by decide) ?_
    refine us_vret hR dX11_two_227 rfl ?_
    cases ho
    exact h2 _ hP6 hF6
  · rw [if_neg (i_sw_x (v := 13) (w := 11) c4 (by decide)), if_neg (i_sw_x (v := 13) (w := 12) c4 (by decide)), if_pos (i_sw (v := 13) c4)] at ho
    refine us_aload_n hR dX11_two_94 rfl ?_
    refine us_lload hR dX11_two_95 rfl ?_
    refine us_lload_n hR dX11_two_97 rfl ?_
    refine us_lmul hR dX11_two_98 ?_
    refine us_callV hR dX11_two_99 (y := 12059) (by decide +kernel) (by decide) (J := i12059) rfl rfl rfl rfl hE.2.1 rfl (Nat.le_of_ble_eq_true rfl) (Nat.zero_le _) (Nat.zero_le _) ?_
    obtain ⟨s7, hs7⟩ := bOv_ex ho
    replace ho := bOv_go ho hs7
    refine sp_12059 hE hP3  hs7 (fun I7 hP7 hF7 => ?_)
    have hF7 := hF3.tr hF7
    refine us_goto hR dX11_two_102 227 (by decide) ?_
    refine us_vret hR dX11_two_227 rfl ?_
    cases ho
    exact h2 _ hP7 hF7
  · rw [if_neg (i_sw_x (v := 14) (w := 11) c4 (by decide)), if_neg (i_sw_x (v := 14) (w := 12) c4 (by decide)), if_neg (i_sw_x (v := 14) (w := 13) c4 (by decide)), if_pos (i_sw (v := 14) c4)] at ho
    exact h12062_J219 x0 r2.toInt64 r3.toInt64  s3 I3 _ _ hP3 hF3 ho
  · rw [if_neg (i_sw_x (v := 15) (w := 11) c4 (by decide)), if_neg (i_sw_x (v := 15) (w := 12) c4 (by decide)), if_neg (i_sw_x (v := 15) (w := 13) c4 (by decide)), if_neg (i_sw_x (v := 15) (w := 14) c4 (by decide)), if_pos (i_sw (v := 15) c4)] at ho
    exact h12062_J219 x0 r2.toInt64 r3.toInt64  s3 I3 _ _ hP3 hF3 ho
  · rw [if_neg (i_sw_x (v := 16) (w := 11) c4 (by decide)), if_neg (i_sw_x (v := 16) (w := 12) c4 (by decide)), if_neg (i_sw_x (v := 16) (w := 13) c4 (by decide)), if_neg (i_sw_x (v := 16) (w := 14) c4 (by decide)), if_neg (i_sw_x (v := 16) (w := 15) c4 (by decide)), if_pos (i_sw (v := 16) c4)] at ho
    refine us_aload_n hR dX11_two_143 rfl ?_
    refine us_lload hR dX11_two_144 rfl ?_
    refine us_lload_n hR dX11_two_146 rfl ?_
    refine us_lcmp hR dX11_two_147 ?_
    refine us_if_ge hR dX11_two_148 155 (by decide) (fun c8 => ?_) (fun c8 => ?_)
    · rw [if_pos c8] at ho
      refine us_iconstC hR dX11_two_155 (c := 0) (by decide) ?_
      refine us_callV hR dX11_two_156 (y := 12057) (by decide +kernel) (by decide) (J := i12057) rfl rfl rfl rfl hE.2.1 rfl (Nat.le_of_ble_eq_true rfl) (Nat.zero_le _) (Nat.zero_le _) ?_
      obtain ⟨s9, hs9⟩ := bOv_ex ho
      replace ho := bOv_go ho hs9
      refine sp_12057 hE hP3  hs9 (fun I9 hP9 hF9 => ?_)
      have hF9 := hF3.tr hF9
      refine us_goto hR dX11_two_159 227 (by decide) ?_
      refine us_vret hR dX11_two_227 rfl ?_
      cases ho
      exact h2 _ hP9 hF9
    · rw [if_neg c8] at ho
      refine us_iconstC hR dX11_two_151 (c := 1) (by decide) ?_
      refine us_goto hR dX11_two_152 156 (by decide) ?_
      refine us_callV hR dX11_two_156 (y := 12057) (by decide +kernel) (by decide) (J := i12057) rfl rfl rfl rfl hE.2.1 rfl (Nat.le_of_ble_eq_true rfl) (Nat.zero_le _) (Nat.zero_le _) ?_
      obtain ⟨s10, hs10⟩ := bOv_ex ho
      replace ho := bOv_go ho hs10
      refine sp_12057 hE hP3  hs10 (fun I10 hP10 hF10 => ?_)
      have hF10 := hF3.tr hF10
      refine us_goto hR dX11_two_159 227 (by decide) ?_
      refine us_vret hR dX11_two_227 rfl ?_
      cases ho
      exact h2 _ hP10 hF10
  · rw [if_neg (i_sw_x (v := 17) (w := 11) c4 (by decide)), if_neg (i_sw_x (v := 17) (w := 12) c4 (by decide)), if_neg (i_sw_x (v := 17) (w := 13) c4 (by decide)), if_neg (i_sw_x (v := 17) (w := 14) c4 (by decide)), if_neg (i_sw_x (v := 17) (w := 15) c4 (by decide)), if_neg (i_sw_x (v := 17) (w := 16) c4 (by decide)), if_pos (i_sw (v := 17) c4)] at ho
    refine us_aload_n hR dX11_two_162 rfl ?_
    refine us_lload hR dX11_two_163 rfl ?_
    refine us_lload_n hR dX11_two_165 rfl ?_
    refine us_lcmp hR dX11_two_166 ?_
    refine us_if_gt hR dX11_two_167 174 (by decide) (fun c11 => ?_) (fun c11 => ?_)
    · rw [if_pos c11] at ho
      refine us_iconstC hR dX11_two_174 (c := 0) (by decide) ?_
      refine us_callV hR dX11_two_175 (y := 12057) (by decide +kernel) (by decide) (J := i12057) rfl rfl rfl rfl hE.2.1 rfl (Nat.le_of_ble_eq_true rfl) (Nat.zero_le _) (Nat.zero_le _) ?_
      obtain ⟨s12, hs12⟩ := bOv_ex ho
      replace ho := bOv_go ho hs12
      refine sp_12057 hE hP3  hs12 (fun I12 hP12 hF12 => ?_)
      have hF12 := hF3.tr hF12
      refine us_goto hR dX11_two_178 227 (by decide) ?_
      refine us_vret hR dX11_two_227 rfl ?_
      cases ho
      exact h2 _ hP12 hF12
    · rw [if_neg c11] at ho
      refine us_iconstC hR dX11_two_170 (c := 1) (by decide) ?_
      refine us_goto hR dX11_two_171 175 (by decide) ?_
      refine us_callV hR dX11_two_175 (y := 12057) (by decide +kernel) (by decide) (J := i12057) rfl rfl rfl rfl hE.2.1 rfl (Nat.le_of_ble_eq_true rfl) (Nat.zero_le _) (Nat.zero_le _) ?_
      obtain ⟨s13, hs13⟩ := bOv_ex ho
      replace ho := bOv_go ho hs13
      refine sp_12057 hE hP3  hs13 (fun I13 hP13 hF13 => ?_)
      have hF13 := hF3.tr hF13
      refine us_goto hR dX11_two_178 227 (by decide) ?_
      refine us_vret hR dX11_two_227 rfl ?_
      cases ho
      exact h2 _ hP13 hF13
  · rw [if_neg (i_sw_x (v := 18) (w := 11) c4 (by decide)), if_neg (i_sw_x (v := 18) (w := 12) c4 (by decide)), if_neg (i_sw_x (v := 18) (w := 13) c4 (by decide)), if_neg (i_sw_x (v := 18) (w := 14) c4 (by decide)), if_neg (i_sw_x (v := 18) (w := 15) c4 (by decide)), if_neg (i_sw_x (v := 18) (w := 16) c4 (by decide)), if_neg (i_sw_x (v := 18) (w := 17) c4 (by decide)), if_pos (i_sw (v := 18) c4)] at ho
    refine us_aload_n hR dX11_two_181 rfl ?_
    refine us_lload hR dX11_two_182 rfl ?_
    refine us_lload_n hR dX11_two_184 rfl ?_
    refine us_lcmp hR dX11_two_185 ?_
    refine us_if_le hR dX11_two_186 193 (by decide) (fun c14 => ?_) (fun c14 => ?_)
    · rw [if_pos c14] at ho
      refine us_iconstC hR dX11_two_193 (c := 0) (by decide) ?_
      refine us_callV hR dX11_two_194 (y := 12057) (by decide +kernel) (by decide) (J := i12057) rfl rfl rfl rfl hE.2.1 rfl (Nat.le_of_ble_eq_true rfl) (Nat.zero_le _) (Nat.zero_le _) ?_
      obtain ⟨s15, hs15⟩ := bOv_ex ho
      replace ho := bOv_go ho hs15
      refine sp_12057 hE hP3  hs15 (fun I15 hP15 hF15 => ?_)
      have hF15 := hF3.tr hF15
      refine us_goto hR dX11_two_197 227 (by decide) ?_
      refine us_vret hR dX11_two_227 rfl ?_
      cases ho
      exact h2 _ hP15 hF15
    · rw [if_neg c14] at ho
      refine us_iconstC hR dX11_two_189 (c := 1) (by decide) ?_
      refine us_goto hR dX11_two_190 194 (by decide) ?_
      refine us_callV hR dX11_two_194 (y := 12057) (by decide +kernel) (by decide) (J := i12057) rfl rfl rfl rfl hE.2.1 rfl (Nat.le_of_ble_eq_true rfl) (Nat.zero_le _) (Nat.zero_le _) ?_
      obtain ⟨s16, hs16⟩ := bOv_ex ho
      replace ho := bOv_go ho hs16
      refine sp_12057 hE hP3  hs16 (fun I16 hP16 hF16 => ?_)
      have hF16 := hF3.tr hF16
      refine us_goto hR dX11_two_197 227 (by decide) ?_
      refine us_vret hR dX11_two_227 rfl ?_
      cases ho
      exact h2 _ hP16 hF16
  · rw [if_neg (i_sw_x (v := 19) (w := 11) c4 (by decide)), if_neg (i_sw_x (v := 19) (w := 12) c4 (by decide)), if_neg (i_sw_x (v := 19) (w := 13) c4 (by decide)), if_neg (i_sw_x (v := 19) (w := 14) c4 (by decide)), if_neg (i_sw_x (v := 19) (w := 15) c4 (by decide)), if_neg (i_sw_x (v := 19) (w := 16) c4 (by decide)), if_neg (i_sw_x (v := 19) (w := 17) c4 (by decide)), if_neg (i_sw_x (v := 19) (w := 18) c4 (by decide)), if_pos (i_sw (v := 19) c4)] at ho
    refine us_aload_n hR dX11_two_200 rfl ?_
    refine us_lload hR dX11_two_201 rfl ?_
    refine us_lload_n hR dX11_two_203 rfl ?_
    refine us_lcmp hR dX11_two_204 ?_
    refine us_if_lt hR dX11_two_205 212 (by decide) (fun c17 => ?_) (fun c17 => ?_)
    · rw [if_pos c17] at ho
      refine us_iconstC hR dX11_two_212 (c := 0) (by decide) ?_
      refine us_callV hR dX11_two_213 (y := 12057) (by decide +kernel) (by decide) (J := i12057) rfl rfl rfl rfl hE.2.1 rfl (Nat.le_of_ble_eq_true rfl) (Nat.zero_le _) (Nat.zero_le _) ?_
      obtain ⟨s18, hs18⟩ := bOv_ex ho
      replace ho := bOv_go ho hs18
      refine sp_12057 hE hP3  hs18 (fun I18 hP18 hF18 => ?_)
      have hF18 := hF3.tr hF18
      refine us_goto hR dX11_two_216 227 (by decide) ?_
      refine us_vret hR dX11_two_227 rfl ?_
      cases ho
      exact h2 _ hP18 hF18
    · rw [if_neg c17] at ho
      refine us_iconstC hR dX11_two_208 (c := 1) (by decide) ?_
      refine us_goto hR dX11_two_209 213 (by decide) ?_
      refine us_callV hR dX11_two_213 (y := 12057) (by decide +kernel) (by decide) (J := i12057) rfl rfl rfl rfl hE.2.1 rfl (Nat.le_of_ble_eq_true rfl) (Nat.zero_le _) (Nat.zero_le _) ?_
      obtain ⟨s19, hs19⟩ := bOv_ex ho
      replace ho := bOv_go ho hs19
      refine sp_12057 hE hP3  hs19 (fun I19 hP19 hF19 => ?_)
      have hF19 := hF3.tr hF19
      refine us_goto hR dX11_two_216 227 (by decide) ?_
      refine us_vret hR dX11_two_227 rfl ?_
      cases ho
      exact h2 _ hP19 hF19
  · rw [if_neg (i_sw_x (v := 20) (w := 11) c4 (by decide)), if_neg (i_sw_x (v := 20) (w := 12) c4 (by decide)), if_neg (i_sw_x (v := 20) (w := 13) c4 (by decide)), if_neg (i_sw_x (v := 20) (w := 14) c4 (by decide)), if_neg (i_sw_x (v := 20) (w := 15) c4 (by decide)), if_neg (i_sw_x (v := 20) (w := 16) c4 (by decide)), if_neg (i_sw_x (v := 20) (w := 17) c4 (by decide)), if_neg (i_sw_x (v := 20) (w := 18) c4 (by decide)), if_neg (i_sw_x (v := 20) (w := 19) c4 (by decide)), if_pos (i_sw (v := 20) c4)] at ho
    refine us_aload_n hR dX11_two_105 rfl ?_
    refine us_lload hR dX11_two_106 rfl ?_
    refine us_lload_n hR dX11_two_108 rfl ?_
    refine us_lcmp hR dX11_two_109 ?_
    refine us_if_ne hR dX11_two_110 117 (by decide) (fun c20 => ?_) (fun c20 => ?_)
    · rw [if_neg c20] at ho
      refine us_iconstC hR dX11_two_117 (c := 0) (by decide) ?_
      refine us_callV hR dX11_two_118 (y := 12057) (by decide +kernel) (by decide) (J := i12057) rfl rfl rfl rfl hE.2.1 rfl (Nat.le_of_ble_eq_true rfl) (Nat.zero_le _) (Nat.zero_le _) ?_
      obtain ⟨s21, hs21⟩ := bOv_ex ho
      replace ho := bOv_go ho hs21
      refine sp_12057 hE hP3  hs21 (fun I21 hP21 hF21 => ?_)
      have hF21 := hF3.tr hF21
      refine us_goto hR dX11_two_121 227 (by decide) ?_
      refine us_vret hR dX11_two_227 rfl ?_
      cases ho
      exact h2 _ hP21 hF21
    · rw [if_pos c20] at ho
      refine us_iconstC hR dX11_two_113 (c := 1) (by decide) ?_
      refine us_goto hR dX11_two_114 118 (by decide) ?_
      refine us_callV hR dX11_two_118 (y := 12057) (by decide +kernel) (by decide) (J := i12057) rfl rfl rfl rfl hE.2.1 rfl (Nat.le_of_ble_eq_true rfl) (Nat.zero_le _) (Nat.zero_le _) ?_
      obtain ⟨s22, hs22⟩ := bOv_ex ho
      replace ho := bOv_go ho hs22
      refine sp_12057 hE hP3  hs22 (fun I22 hP22 hF22 => ?_)
      have hF22 := hF3.tr hF22
      refine us_goto hR dX11_two_121 227 (by decide) ?_
      refine us_vret hR dX11_two_227 rfl ?_
      cases ho
      exact h2 _ hP22 hF22
  · rw [if_neg (i_sw_x (v := 21) (w := 11) c4 (by decide)), if_neg (i_sw_x (v := 21) (w := 12) c4 (by decide)), if_neg (i_sw_x (v := 21) (w := 13) c4 (by decide)), if_neg (i_sw_x (v := 21) (w := 14) c4 (by decide)), if_neg (i_sw_x (v := 21) (w := 15) c4 (by decide)), if_neg (i_sw_x (v := 21) (w := 16) c4 (by decide)), if_neg (i_sw_x (v := 21) (w := 17) c4 (by decide)), if_neg (i_sw_x (v := 21) (w := 18) c4 (by decide)), if_neg (i_sw_x (v := 21) (w := 19) c4 (by decide)), if_neg (i_sw_x (v := 21) (w := 20) c4 (by decide)), if_pos (i_sw (v := 21) c4)] at ho
    refine us_aload_n hR dX11_two_124 rfl ?_
    refine us_lload hR dX11_two_125 rfl ?_
    refine us_lload_n hR dX11_two_127 rfl ?_
    refine us_lcmp hR dX11_two_128 ?_
    refine us_if_eq hR dX11_two_129 136 (by decide) (fun c23 => ?_) (fun c23 => ?_)
    · rw [if_pos c23] at ho
      refine us_iconstC hR dX11_two_136 (c := 0) (by decide) ?_
      refine us_callV hR dX11_two_137 (y := 12057) (by decide +kernel) (by decide) (J := i12057) rfl rfl rfl rfl hE.2.1 rfl (Nat.le_of_ble_eq_true rfl) (Nat.zero_le _) (Nat.zero_le _) ?_
      obtain ⟨s24, hs24⟩ := bOv_ex ho
      replace ho := bOv_go ho hs24
      refine sp_12057 hE hP3  hs24 (fun I24 hP24 hF24 => ?_)
      have hF24 := hF3.tr hF24
      refine us_goto hR dX11_two_140 227 (by decide) ?_
      refine us_vret hR dX11_two_227 rfl ?_
      cases ho
      exact h2 _ hP24 hF24
    · rw [if_neg c23] at ho
      refine us_iconstC hR dX11_two_132 (c := 1) (by decide) ?_
      refine us_goto hR dX11_two_133 137 (by decide) ?_
      refine us_callV hR dX11_two_137 (y := 12057) (by decide +kernel) (by decide) (J := i12057) rfl rfl rfl rfl hE.2.1 rfl (Nat.le_of_ble_eq_true rfl) (Nat.zero_le _) (Nat.zero_le _) ?_
      obtain ⟨s25, hs25⟩ := bOv_ex ho
      replace ho := bOv_go ho hs25
      refine sp_12057 hE hP3  hs25 (fun I25 hP25 hF25 => ?_)
      have hF25 := hF3.tr hF25
      refine us_goto hR dX11_two_140 227 (by decide) ?_
      refine us_vret hR dX11_two_227 rfl ?_
      cases ho
      exact h2 _ hP25 hF25
def f_12064  (s : Mx) : Option Mx :=
  bO (f_12058 s) fun s1 r1 =>
  bO (f_12058 s1) fun s2 r2 =>
  if (f_12060 r2 s2) = 0 then
    bS (mp s2 50 4) fun s5 =>
    some s5
  else
    gd (vi r2 32) <|
    bS (ms s2 34 r2 r1) fun s6 =>
    some s6
theorem sp_12064 {d : Nat} {G : ab_G} {ad : Nat → Nat} {I : Nat → Nat → Int32} {s : Mx} {P : ab_Pq} {X : ab_Xq} (hE : EM G ad) (hP : RepM I ad s)   {o : Mx} (ho : f_12064 s = some o) (h : ∀ I1, RepM I1 ad o → FrM ad I I1 → P (gW G I1) none) : ab_Gam (d + 3) 12064 [.ref (ad 0)] (gW G I) P X := by
  have h2 := h
  have hF : FrM ad I I := FrM_rfl
  unfold f_12064 at ho
  refine ab_enter (I := i12064) rfl (Nat.le_of_ble_eq_true rfl) (fun R hR => ?_)
  refine us_aload_n hR dX11_stores_0 rfl ?_
  refine us_callV hR dX11_stores_1 (y := 12058) (by decide +kernel) (by decide) (J := i12058) rfl rfl rfl rfl hE.2.1 rfl (Nat.le_of_ble_eq_true rfl) (Nat.zero_le _) (Nat.zero_le _) ?_
  obtain ⟨q1, hs1⟩ := bO_ex ho
  obtain ⟨s1, r1⟩ := q1
  replace ho := bO_go ho hs1
  refine sp_12058 hE hP  hs1 (fun I1 hP1 hF1 => ?_)
  have hF1 := hF.tr hF1
  refine us_istore_n hR dX11_stores_4 (Nat.le_of_ble_eq_true rfl) ?_
  refine us_aload_n hR dX11_stores_5 rfl ?_
  refine us_callV hR dX11_stores_6 (y := 12058) (by decide +kernel) (by decide) (J := i12058) rfl rfl rfl rfl hE.2.1 rfl (Nat.le_of_ble_eq_true rfl) (Nat.zero_le _) (Nat.zero_le _) ?_
  obtain ⟨q2, hs2⟩ := bO_ex ho
  obtain ⟨s2, r2⟩ := q2
  replace ho := bO_go ho hs2
  refine sp_12058 hE hP1  hs2 (fun I2 hP2 hF2 => ?_)
  have hF2 := hF1.tr hF2
  refine us_istore_n hR dX11_stores_9 (Nat.le_of_ble_eq_true rfl) ?_
  refine us_iload_n hR dX11_stores_10 rfl ?_
  refine us_callS hR dX11_stores_11 (y := 12060) (by decide +kernel) (by decide) (J := i12060) rfl rfl rfl rfl (rest := _) (Nat.le_of_ble_eq_true rfl) (Nat.zero_le _) (Nat.zero_le _) ?_
  refine sp_12060 hE hP2  (fun hb3 => ?_)
  refine us_if_eq hR dX11_stores_14 27 (by decide) (fun c4 => ?_) (fun c4 => ?_)
  · rw [if_pos c4] at ho
    refine us_aload_n hR dX11_stores_27 rfl ?_
    refine us_iconstC hR dX11_stores_28 (c := 4) (by decide) ?_
    refine us_putIM hE hP2 50 hR dX11_stores_29 fR_12_413 (Or.inl rfl) rfl rfl (fun I5 s5 hs5 hP5 hF5 => ?_)
    rw [← hs5, bS_eq] at ho
    have hF5 := hF2.tr hF5
    refine us_vret hR dX11_stores_32 rfl ?_
    cases ho
    exact h2 _ hP5 hF5
  · rw [if_neg c4] at ho
    refine us_aload_n hR dX11_stores_17 rfl ?_
    refine us_getR hR dX11_stores_18 fR_12_111 hE.2.1 rfl (em_r_59 hE) ?_
    refine us_iload_n hR dX11_stores_21 rfl ?_
    refine us_iload_n hR dX11_stores_22 rfl ?_
    have hg := gd_c ho
    rw [gd_e hg] at ho
    refine us_iastoreM hE hP2 (em_q_59 hE) hR dX11_stores_23 hg (fun I6 s6 hs6 hP6 hF6 => ?_)
    rw [← hs6, bS_eq] at ho
    have hF6 := hF2.tr hF6
    refine us_goto hR dX11_stores_24 32 (by decide) ?_
    refine us_vret hR dX11_stores_32 rfl ?_
    cases ho
    exact h2 _ hP6 hF6
def f_12065  (s : Mx) : Option Mx :=
  bO (f_12058 s) fun s1 r1 =>
  if (mf s1 57) = 8 then
    bS (mp s1 50 6) fun s5 =>
    some s5
  else
    gd (vi (mf s1 57) 9) <|
    bS (ms s1 33 (mf s1 57) r1) fun s3 =>
    bS (mp s3 57 ((mf s3 57) + 1)) fun s4 =>
    some s4
theorem sp_12065 {d : Nat} {G : ab_G} {ad : Nat → Nat} {I : Nat → Nat → Int32} {s : Mx} {P : ab_Pq} {X : ab_Xq} (hE : EM G ad) (hP : RepM I ad s)   {o : Mx} (ho : f_12065 s = some o) (h : ∀ I1, RepM I1 ad o → FrM ad I I1 → P (gW G I1) none) : ab_Gam (d + 2) 12065 [.ref (ad 0)] (gW G I) P X := by
  have h2 := h
  have hF : FrM ad I I := FrM_rfl
  unfold f_12065 at ho
  refine ab_enter (I := i12065) rfl (Nat.le_of_ble_eq_true rfl) (fun R hR => ?_)
  refine us_aload_n hR dX11_writes_0 rfl ?_
  refine us_callV hR dX11_writes_1 (y := 12058) (by decide +kernel) (by decide) (J := i12058) rfl rfl rfl rfl hE.2.1 rfl (Nat.le_of_ble_eq_true rfl) (Nat.zero_le _) (Nat.zero_le _) ?_
  obtain ⟨q1, hs1⟩ := bO_ex ho
  obtain ⟨s1, r1⟩ := q1
  replace ho := bO_go ho hs1
  refine sp_12058 hE hP  hs1 (fun I1 hP1 hF1 => ?_)
  have hF1 := hF.tr hF1
  refine us_istore_n hR dX11_writes_4 (Nat.le_of_ble_eq_true rfl) ?_
  refine us_aload_n hR dX11_writes_5 rfl ?_
  refine us_getIx hR dX11_writes_6 fR_12_440 hE.2.1 rfl (RepM_f hP1 57) ?_
  refine us_bipushC hR dX11_writes_9 (c := 8) (by decide) ?_
  refine us_icmp_ne hR dX11_writes_11 23 (by decide) (fun c2 => ?_) (fun c2 => ?_)
  · rw [if_neg c2] at ho
    refine us_aload_n hR dX11_writes_23 rfl ?_
    refine us_getR hR dX11_writes_24 fR_12_108 hE.2.1 rfl (em_r_58 hE) ?_
    refine us_aload_n hR dX11_writes_27 rfl ?_
    refine us_getIx hR dX11_writes_28 fR_12_440 hE.2.1 rfl (RepM_f hP1 57) ?_
    refine us_iload_n hR dX11_writes_31 rfl ?_
    have hg := gd_c ho
    rw [gd_e hg] at ho
    refine us_iastoreM hE hP1 (em_q_58 hE) hR dX11_writes_32 hg (fun I3 s3 hs3 hP3 hF3 => ?_)
    rw [← hs3, bS_eq] at ho
    have hF3 := hF1.tr hF3
    refine us_aload_n hR dX11_writes_33 rfl ?_
    refine us_dup hR dX11_writes_34 rfl ?_
    refine us_getIx hR dX11_writes_35 fR_12_440 hE.2.1 rfl (RepM_f hP3 57) ?_
    refine us_iconstC hR dX11_writes_38 (c := 1) (by decide) ?_
    refine us_iadd hR dX11_writes_39 ?_
    refine us_putIM hE hP3 57 hR dX11_writes_40 fR_12_440 (Or.inl rfl) rfl rfl (fun I4 s4 hs4 hP4 hF4 => ?_)
    rw [← hs4, bS_eq] at ho
    have hF4 := hF3.tr hF4
    refine us_vret hR dX11_writes_43 rfl ?_
    cases ho
    exact h2 _ hP4 hF4
  · rw [if_pos c2] at ho
    refine us_aload_n hR dX11_writes_14 rfl ?_
    refine us_bipushC hR dX11_writes_15 (c := 6) (by decide) ?_
    refine us_putIM hE hP1 50 hR dX11_writes_17 fR_12_413 (Or.inl rfl) rfl rfl (fun I5 s5 hs5 hP5 hF5 => ?_)
    rw [← hs5, bS_eq] at ho
    have hF5 := hF1.tr hF5
    refine us_goto hR dX11_writes_20 43 (by decide) ?_
    refine us_vret hR dX11_writes_43 rfl ?_
    cases ho
    exact h2 _ hP5 hF5
def f_12066_L75  : Nat → Int32 → Int32 → Int32 → Mx → Option (Mx × Int32)
  | 0, _, _, _, _ => none
  | n + 1, l1, l2, l3, s =>
    if l3 < 0 then
      gd (vi l1 40) <|
      some (s, (mg s 15 l1))
    else
      bO (f_12058 s) fun s2 r2 =>
      gd (vi ((8 * (mf s 52)) + l3) 88) <|
      bS (ms s2 31 ((8 * (mf s 52)) + l3) r2) fun s3 =>
      f_12066_L75 n l1 l2 (l3 + (-1)) s3
def f_12066_L39  : Nat → Int32 → Int32 → Int32 → Mx → Option (Mx × Int32)
  | 0, _, _, _, _ => none
  | n + 1, l1, l2, l3, s =>
    if 8 ≤ l3 then
      gd (vi l1 40) <|
      f_12066_L75 1000 l1 l2 ((mg s 14 l1) - 1) s
    else
      gd (vi ((8 * (mf s 52)) + l3) 88) <|
      bS (ms s 31 ((8 * (mf s 52)) + l3) 0) fun s5 =>
      f_12066_L39 n l1 l2 (l3 + 1) s5
def f_12066 (x0 : Int32) (x1 : Int32) (s : Mx) : Option (Mx × Int32) :=
  if (mf s 52) = 10 then
    bS (mp s 50 7) fun s9 =>
    some (s9, x1)
  else
    bS (mp s 52 ((mf s 52) + 1)) fun s7 =>
    gd (vi (mf s7 52) 12) <|
    bS (ms s7 32 (mf s7 52) x1) fun s8 =>
    f_12066_L39 1000 x0 x1 0 s8
theorem sp_12066 {d : Nat} {G : ab_G} {ad : Nat → Nat} {I : Nat → Nat → Int32} {s : Mx} {P : ab_Pq} {X : ab_Xq} (hE : EM G ad) (hP : RepM I ad s) {x0 : Int32} {x1 : Int32}  {o : Mx × Int32} (ho : f_12066 x0 x1 s = some o) (h : ∀ I1, RepM I1 ad o.1 → FrM ad I I1 → P (gW G I1) (some (.int o.2))) : ab_Gam (d + 2) 12066 [.ref (ad 0), .int x0, .int x1] (gW G I) P X := by
  have h2 := h
  have hF : FrM ad I I := FrM_rfl
  unfold f_12066 at ho
  refine ab_enter (I := i12066) rfl (Nat.le_of_ble_eq_true rfl) (fun R hR => ?_)
  have h12066_L75 : ∀ (n : Nat) (l1 : Int32) (l2 : Int32) (l3 : Int32)  (s : Mx) (Ia : Nat → Nat → Int32) (bc bs : Nat) (hPa : RepM Ia ad s) (hFa : FrM ad I Ia) (ho : f_12066_L75 n l1 l2 l3 s = some o), R 75 [some (.ref (ad 0)), some (.int l1), some (.int l2), some (.int l3)] [] (gW G Ia) bc bs := by
    intro n
    induction n with
    | zero => intro l1 l2 l3  s Ia bc bs  hPa hFa ho; exact absurd ho (by intro hc; cases hc)
    | succ n75 ih75 =>
      intro l1 l2 l3  s Ia bc bs  hPa hFa ho
      rw [f_12066_L75] at ho
      refine us_iload_n hR dX11_calls_75 rfl ?_
      refine us_if_lt hR dX11_calls_76 103 (by decide) (fun c1 => ?_) (fun c1 => ?_)
      · rw [if_pos c1] at ho
        refine us_aload_n hR dX11_calls_103 rfl ?_
        refine us_getR hR dX11_calls_104 fR_12_53 hE.2.1 rfl (em_r_26 hE) ?_
        refine us_iload_n hR dX11_calls_107 rfl ?_
        have hg := gd_c ho
        rw [gd_e hg] at ho
        refine us_ialoadM hE hPa (em_q_26 hE) hR dX11_calls_108 hg ?_
        refine us_iret hR dX11_calls_109 rfl rfl ?_
        cases ho
        exact h2 _ hPa hFa
      · rw [if_neg c1] at ho
        refine us_aload_n hR dX11_calls_79 rfl ?_
        refine us_getR hR dX11_calls_80 fR_12_102 hE.2.1 rfl (em_r_55 hE) ?_
        refine us_bipushC hR dX11_calls_83 (c := 8) (by decide) ?_
        refine us_aload_n hR dX11_calls_85 rfl ?_
        refine us_getIx hR dX11_calls_86 fR_12_443 hE.2.1 rfl (RepM_f hPa 52) ?_
        refine us_imul hR dX11_calls_89 ?_
        refine us_iload_n hR dX11_calls_90 rfl ?_
        refine us_iadd hR dX11_calls_91 ?_
        refine us_aload_n hR dX11_calls_92 rfl ?_
        refine us_callV hR dX11_calls_93 (y := 12058) (by decide +kernel) (by decide) (J := i12058) rfl rfl rfl rfl hE.2.1 rfl (Nat.le_of_ble_eq_true rfl) (Nat.zero_le _) (Nat.zero_le _) ?_
        obtain ⟨q2, hs2⟩ := bO_ex ho
        obtain ⟨s2, r2⟩ := q2
        replace ho := bO_go ho hs2
        refine sp_12058 hE hPa  hs2 (fun I2 hP2 hF2 => ?_)
        have hF2 := hFa.tr hF2
        have hg := gd_c ho
        rw [gd_e hg] at ho
        refine us_iastoreM hE hP2 (em_q_55 hE) hR dX11_calls_96 hg (fun I3 s3 hs3 hP3 hF3 => ?_)
        rw [← hs3, bS_eq] at ho
        have hF3 := hF2.tr hF3
        refine us_iincC hR dX11_calls_97 rfl (Nat.le_of_ble_eq_true rfl) (c := (-1)) (by decide) ?_
        refine us_goto hR dX11_calls_100 75 (by decide) ?_
        exact ih75 l1 l2 (l3 + (-1))  s3 I3 _ _ hP3 hF3 ho
  have h12066_L39 : ∀ (n : Nat) (l1 : Int32) (l2 : Int32) (l3 : Int32)  (s : Mx) (Ia : Nat → Nat → Int32) (bc bs : Nat) (hPa : RepM Ia ad s) (hFa : FrM ad I Ia) (ho : f_12066_L39 n l1 l2 l3 s = some o), R 39 [some (.ref (ad 0)), some (.int l1), some (.int l2), some (.int l3)] [] (gW G Ia) bc bs := by
    intro n
    induction n with
    | zero => intro l1 l2 l3  s Ia bc bs  hPa hFa ho; exact absurd ho (by intro hc; cases hc)
    | succ n39 ih39 =>
      intro l1 l2 l3  s Ia bc bs  hPa hFa ho
      rw [f_12066_L39] at ho
      refine us_iload_n hR dX11_calls_39 rfl ?_
      refine us_bipushC hR dX11_calls_40 (c := 8) (by decide) ?_
      refine us_icmp_ge hR dX11_calls_42 66 (by decide) (fun c4 => ?_) (fun c4 => ?_)
      · rw [if_pos c4] at ho
        refine us_aload_n hR dX11_calls_66 rfl ?_
        refine us_getR hR dX11_calls_67 fR_12_50 hE.2.1 rfl (em_r_25 hE) ?_
        refine us_iload_n hR dX11_calls_70 rfl ?_
        have hg := gd_c ho
        rw [gd_e hg] at ho
        refine us_ialoadM hE hPa (em_q_25 hE) hR dX11_calls_71 hg ?_
        refine us_iconstC hR dX11_calls_72 (c := 1) (by decide) ?_
        refine us_isub hR dX11_calls_73 ?_
        refine us_istore_n hR dX11_calls_74 (Nat.le_of_ble_eq_true rfl) ?_
        exact h12066_L75 _ l1 l2 ((mg s 14 l1) - 1)  s Ia _ _ hPa hFa ho
      · rw [if_neg c4] at ho
        refine us_aload_n hR dX11_calls_45 rfl ?_
        refine us_getR hR dX11_calls_46 fR_12_102 hE.2.1 rfl (em_r_55 hE) ?_
        refine us_bipushC hR dX11_calls_49 (c := 8) (by decide) ?_
        refine us_aload_n hR dX11_calls_51 rfl ?_
        refine us_getIx hR dX11_calls_52 fR_12_443 hE.2.1 rfl (RepM_f hPa 52) ?_
        refine us_imul hR dX11_calls_55 ?_
        refine us_iload_n hR dX11_calls_56 rfl ?_
        refine us_iadd hR dX11_calls_57 ?_
        refine us_iconstC hR dX11_calls_58 (c := 0) (by decide) ?_
        have hg := gd_c ho
        rw [gd_e hg] at ho
        refine us_iastoreM hE hPa (em_q_55 hE) hR dX11_calls_59 hg (fun I5 s5 hs5 hP5 hF5 => ?_)
        rw [← hs5, bS_eq] at ho
        have hF5 := hFa.tr hF5
        refine us_iincC hR dX11_calls_60 rfl (Nat.le_of_ble_eq_true rfl) (c := 1) (by decide) ?_
        refine us_goto hR dX11_calls_63 39 (by decide) ?_
        exact ih39 l1 l2 (l3 + 1)  s5 I5 _ _ hP5 hF5 ho
  refine us_aload_n hR dX11_calls_0 rfl ?_
  refine us_getIx hR dX11_calls_1 fR_12_443 hE.2.1 rfl (RepM_f hP 52) ?_
  refine us_bipushC hR dX11_calls_4 (c := 10) (by decide) ?_
  refine us_icmp_ne hR dX11_calls_6 17 (by decide) (fun c6 => ?_) (fun c6 => ?_)
  · rw [if_neg c6] at ho
    refine us_aload_n hR dX11_calls_17 rfl ?_
    refine us_dup hR dX11_calls_18 rfl ?_
    refine us_getIx hR dX11_calls_19 fR_12_443 hE.2.1 rfl (RepM_f hP 52) ?_
    refine us_iconstC hR dX11_calls_22 (c := 1) (by decide) ?_
    refine us_iadd hR dX11_calls_23 ?_
    refine us_putIM hE hP 52 hR dX11_calls_24 fR_12_443 (Or.inl rfl) rfl rfl (fun I7 s7 hs7 hP7 hF7 => ?_)
    rw [← hs7, bS_eq] at ho
    have hF7 := hF.tr hF7
    refine us_aload_n hR dX11_calls_27 rfl ?_
    refine us_getR hR dX11_calls_28 fR_12_105 hE.2.1 rfl (em_r_56 hE) ?_
    refine us_aload_n hR dX11_calls_31 rfl ?_
    refine us_getIx hR dX11_calls_32 fR_12_443 hE.2.1 rfl (RepM_f hP7 52) ?_
    refine us_iload_n hR dX11_calls_35 rfl ?_
    have hg := gd_c ho
    rw [gd_e hg] at ho
    refine us_iastoreM hE hP7 (em_q_56 hE) hR dX11_calls_36 hg (fun I8 s8 hs8 hP8 hF8 => ?_)
    rw [← hs8, bS_eq] at ho
    have hF8 := hF7.tr hF8
    refine us_iconstC hR dX11_calls_37 (c := 0) (by decide) ?_
    refine us_istore_n hR dX11_calls_38 (Nat.le_of_ble_eq_true rfl) ?_
    exact h12066_L39 _ x0 x1 0  s8 I8 _ _ hP8 hF8 ho
  · rw [if_pos c6] at ho
    refine us_aload_n hR dX11_calls_9 rfl ?_
    refine us_bipushC hR dX11_calls_10 (c := 7) (by decide) ?_
    refine us_putIM hE hP 50 hR dX11_calls_12 fR_12_413 (Or.inl rfl) rfl rfl (fun I9 s9 hs9 hP9 hF9 => ?_)
    rw [← hs9, bS_eq] at ho
    have hF9 := hF.tr hF9
    refine us_iload_n hR dX11_calls_15 rfl ?_
    refine us_iret hR dX11_calls_16 rfl rfl ?_
    cases ho
    exact h2 _ hP9 hF9
def f_12067_J216  (l1 : Int32) (l2 : Int32) (s : Mx) : Option (Mx × Int32) :=
  bS (mp s 53 ((mf s 53) - 1)) fun s1 =>
  some (s1, (l1 + 1))
def f_12067_J154  (l1 : Int32) (l2 : Int32) (k0 : Int32) (s : Mx) : Option (Mx × Int32) :=
  bOv (f_12057 k0 s) fun s2 =>
  some (s2, (l1 + 1))
def f_12067 (x0 : Int32) (s : Mx) : Option (Mx × Int32) :=
  gd (vi x0 1200) <|
  gd (vi x0 1200) <|
  if (mg s 4 x0) = 1 then
    bOv (f_12057 (mg s 5 x0) s) fun s4 =>
    some (s4, (x0 + 1))
  else if (mg s 4 x0) = 2 then
    gd (vi ((8 * (mf s 52)) + (mg s 5 x0)) 88) <|
    bOv (f_12057 (mg s 31 ((8 * (mf s 52)) + (mg s 5 x0))) s) fun s5 =>
    some (s5, (x0 + 1))
  else if (mg s 4 x0) = 3 then
    bO (f_12058 s) fun s6 r6 =>
    gd (vi ((8 * (mf s 52)) + (mg s 5 x0)) 88) <|
    bS (ms s6 31 ((8 * (mf s 52)) + (mg s 5 x0)) r6) fun s7 =>
    some (s7, (x0 + 1))
  else if (mg s 4 x0) = 4 then
    f_12067_J216 x0 (mg s 5 x0) s
  else if (mg s 4 x0) = 5 then
    f_12067_J216 x0 (mg s 5 x0) s
  else if (mg s 4 x0) = 6 then
    f_12067_J216 x0 (mg s 5 x0) s
  else if (mg s 4 x0) = 7 then
    f_12067_J216 x0 (mg s 5 x0) s
  else if (mg s 4 x0) = 8 then
    bO (f_12058 s) fun s8 r8 =>
    if r8 = 0 then
      f_12067_J154 x0 (mg s 5 x0) 0 s8
    else
      f_12067_J154 x0 (mg s 5 x0) 1 s8
  else if (mg s 4 x0) = 9 then
    f_12067_J216 x0 (mg s 5 x0) s
  else if (mg s 4 x0) = 10 then
    f_12067_J216 x0 (mg s 5 x0) s
  else if (mg s 4 x0) = 11 then
    bOv (f_12065 s) fun s10 =>
    some (s10, (x0 + 1))
  else if (mg s 4 x0) = 12 then
    bOv (f_12064 s) fun s11 =>
    some (s11, (x0 + 1))
  else if (mg s 4 x0) = 13 then
    bO (f_12058 s) fun s12 r12 =>
    if r12 = 0 then
      some (s12, (mg s 5 x0))
    else
      some (s12, (x0 + 1))
  else if (mg s 4 x0) = 14 then
    some (s, (mg s 5 x0))
  else if (mg s 4 x0) = 15 then
    bS (mp s 52 ((mf s 52) - 1)) fun s14 =>
    gd (vi ((mf s14 52) + 1) 12) <|
    some (s14, (mg s14 32 ((mf s14 52) + 1)))
  else
    f_12067_J216 x0 (mg s 5 x0) s
theorem sp_12067 {d : Nat} {G : ab_G} {ad : Nat → Nat} {I : Nat → Nat → Int32} {s : Mx} {P : ab_Pq} {X : ab_Xq} (hE : EM G ad) (hP : RepM I ad s) {x0 : Int32}  {o : Mx × Int32} (ho : f_12067 x0 s = some o) (h : ∀ I1, RepM I1 ad o.1 → FrM ad I I1 → P (gW G I1) (some (.int o.2))) : ab_Gam (d + 4) 12067 [.ref (ad 0), .int x0] (gW G I) P X := by
  have h2 := h
  have hF : FrM ad I I := FrM_rfl
  unfold f_12067 at ho
  refine ab_enter (I := i12067) rfl (Nat.le_of_ble_eq_true rfl) (fun R hR => ?_)
  have h12067_J216 : ∀ (l1 : Int32) (l2 : Int32)  (s : Mx) (Ia : Nat → Nat → Int32) (bc bs : Nat) (hPa : RepM Ia ad s) (hFa : FrM ad I Ia) (ho : f_12067_J216 l1 l2 s = some o), R 216 [some (.ref (ad 0)), some (.int l1), some (.int l2)] [] (gW G Ia) bc bs := by
    intro l1 l2  s Ia bc bs  hPa hFa ho
    unfold f_12067_J216 at ho
    refine us_aload_n hR dX11_does_216 rfl ?_
    refine us_dup hR dX11_does_217 rfl ?_
    refine us_getIx hR dX11_does_218 fR_12_416 hE.2.1 rfl (RepM_f hPa 53) ?_
    refine us_iconstC hR dX11_does_221 (c := 1) (by decide) ?_
    refine us_isub hR dX11_does_222 ?_
    refine us_putIM hE hPa 53 hR dX11_does_223 fR_12_416 (Or.inl rfl) rfl rfl (fun I1 s1 hs1 hP1 hF1 => ?_)
    rw [← hs1, bS_eq] at ho
    have hF1 := hFa.tr hF1
    refine us_iload_n hR dX11_does_226 rfl ?_
    refine us_iconstC hR dX11_does_227 (c := 1) (by decide) ?_
    refine us_iadd hR dX11_does_228 ?_
    refine us_iret hR dX11_does_229 rfl rfl ?_
    cases ho
    exact h2 _ hP1 hF1
  have h12067_J154 : ∀ (l1 : Int32) (l2 : Int32) (k0 : Int32)  (s : Mx) (Ia : Nat → Nat → Int32) (bc bs : Nat) (hPa : RepM Ia ad s) (hFa : FrM ad I Ia) (ho : f_12067_J154 l1 l2 k0 s = some o), R 154 [some (.ref (ad 0)), some (.int l1), some (.int l2)] [.int k0, .ref (ad 0)] (gW G Ia) bc bs := by
    intro l1 l2 k0  s Ia bc bs  hPa hFa ho
    unfold f_12067_J154 at ho
    refine us_callV hR dX11_does_154 (y := 12057) (by decide +kernel) (by decide) (J := i12057) rfl rfl rfl rfl hE.2.1 rfl (Nat.le_of_ble_eq_true rfl) (Nat.zero_le _) (Nat.zero_le _) ?_
    obtain ⟨s2, hs2⟩ := bOv_ex ho
    replace ho := bOv_go ho hs2
    refine sp_12057 hE hPa  hs2 (fun I2 hP2 hF2 => ?_)
    have hF2 := hFa.tr hF2
    refine us_iload_n hR dX11_does_157 rfl ?_
    refine us_iconstC hR dX11_does_158 (c := 1) (by decide) ?_
    refine us_iadd hR dX11_does_159 ?_
    refine us_iret hR dX11_does_160 rfl rfl ?_
    cases ho
    exact h2 _ hP2 hF2
  refine us_aload_n hR dX11_does_0 rfl ?_
  refine us_getR hR dX11_does_1 fR_12_23 hE.2.1 rfl (em_r_13 hE) ?_
  refine us_iload_n hR dX11_does_4 rfl ?_
  have hg := gd_c ho
  rw [gd_e hg] at ho
  refine us_ialoadM hE hP (em_q_13 hE) hR dX11_does_5 hg ?_
  refine us_istore_n hR dX11_does_6 (Nat.le_of_ble_eq_true rfl) ?_
  refine us_aload_n hR dX11_does_7 rfl ?_
  refine us_getR hR dX11_does_8 fR_12_19 hE.2.1 rfl (em_r_12 hE) ?_
  refine us_iload_n hR dX11_does_11 rfl ?_
  have hg := gd_c ho
  rw [gd_e hg] at ho
  refine us_ialoadM hE hP (em_q_12 hE) hR dX11_does_12 hg ?_
  refine us_tsw hR dX11_does_13 (fun c3 => ⟨by decide, ?_⟩) (by decide) ⟨fun c3 => ⟨by decide, ?_⟩, fun c3 => ⟨by decide, ?_⟩, fun c3 => ⟨by decide, ?_⟩, fun c3 => ⟨by decide, ?_⟩, fun c3 => ⟨by decide, ?_⟩, fun c3 => ⟨by decide, ?_⟩, fun c3 => ⟨by decide, ?_⟩, fun c3 => ⟨by decide, ?_⟩, fun c3 => ⟨by decide, ?_⟩, fun c3 => ⟨by decide, ?_⟩, fun c3 => ⟨by decide, ?_⟩, fun c3 => ⟨by decide, ?_⟩, fun c3 => ⟨by decide, ?_⟩, fun c3 => ⟨by decide, ?_⟩, fun c3 => ⟨by decide, ?_⟩, trivial⟩
  · rw [if_neg (i_sw_d (v := 1) c3 (by decide)), if_neg (i_sw_d (v := 2) c3 (by decide)), if_neg (i_sw_d (v := 3) c3 (by decide)), if_neg (i_sw_d (v := 4) c3 (by decide)), if_neg (i_sw_d (v := 5) c3 (by decide)), if_neg (i_sw_d (v := 6) c3 (by decide)), if_neg (i_sw_d (v := 7) c3 (by decide)), if_neg (i_sw_d (v := 8) c3 (by decide)), if_neg (i_sw_d (v := 9) c3 (by decide)), if_neg (i_sw_d (v := 10) c3 (by decide)), if_neg (i_sw_d (v := 11) c3 (by decide)), if_neg (i_sw_d (v := 12) c3 (by decide)), if_neg (i_sw_d (v := 13) c3 (by decide)), if_neg (i_sw_d (v := 14) c3 (by decide)), if_neg (i_sw_d (v := 15) c3 (by decide))] at ho
    exact h12067_J216 x0 (mg s 5 x0)  s I _ _ hP hF ho
  · rw [if_pos (i_sw (v := 1) c3)] at ho
    refine us_aload_n hR dX11_does_88 rfl ?_
    refine us_iload_n hR dX11_does_89 rfl ?_
    refine us_callV hR dX11_does_90 (y := 12057) (by decide +kernel) (by decide) (J := i12057) rfl rfl rfl rfl hE.2.1 rfl (Nat.le_of_ble_eq_true rfl) (Nat.zero_le _) (Nat.zero_le _) ?_
    obtain ⟨s4, hs4⟩ := bOv_ex ho
    replace ho := bOv_go ho hs4
    refine sp_12057 hE hP  hs4 (fun I4 hP4 hF4 => ?_)
    have hF4 := hF.tr hF4
    refine us_iload_n hR dX11_does_93 rfl ?_
    refine us_iconstC hR dX11_does_94 (c := 1) (by decide) ?_
    refine us_iadd hR dX11_does_95 ?_
    refine us_iret hR dX11_does_96 rfl rfl ?_
    cases ho
    exact h2 _ hP4 hF4
  · rw [if_neg (i_sw_x (v := 2) (w := 1) c3 (by decide)), if_pos (i_sw (v := 2) c3)] at ho
    refine us_aload_n hR dX11_does_97 rfl ?_
    refine us_aload_n hR dX11_does_98 rfl ?_
    refine us_getR hR dX11_does_99 fR_12_102 hE.2.1 rfl (em_r_55 hE) ?_
    refine us_bipushC hR dX11_does_102 (c := 8) (by decide) ?_
    refine us_aload_n hR dX11_does_104 rfl ?_
    refine us_getIx hR dX11_does_105 fR_12_443 hE.2.1 rfl (RepM_f hP 52) ?_
    refine us_imul hR dX11_does_108 ?_
    refine us_iload_n hR dX11_does_109 rfl ?_
    refine us_iadd hR dX11_does_110 ?_
    have hg := gd_c ho
    rw [gd_e hg] at ho
    refine us_ialoadM hE hP (em_q_55 hE) hR dX11_does_111 hg ?_
    refine us_callV hR dX11_does_112 (y := 12057) (by decide +kernel) (by decide) (J := i12057) rfl rfl rfl rfl hE.2.1 rfl (Nat.le_of_ble_eq_true rfl) (Nat.zero_le _) (Nat.zero_le _) ?_
    obtain ⟨s5, hs5⟩ := bOv_ex ho
    replace ho := bOv_go ho hs5
    refine sp_12057 hE hP  hs5 (fun I5 hP5 hF5 => ?_)
    have hF5 := hF.tr hF5
    refine us_iload_n hR dX11_does_115 rfl ?_
    refine us_iconstC hR dX11_does_116 (c := 1) (by decide) ?_
    refine us_iadd hR dX11_does_117 ?_
    refine us_iret hR dX11_does_118 rfl rfl ?_
    cases ho
    exact h2 _ hP5 hF5
  · rw [if_neg (i_sw_x (v := 3) (w := 1) c3 (by decide)), if_neg (i_sw_x (v := 3) (w := 2) c3 (by decide)), if_pos (i_sw (v := 3) c3)] at ho
    refine us_aload_n hR dX11_does_119 rfl ?_
    refine us_getR hR dX11_does_120 fR_12_102 hE.2.1 rfl (em_r_55 hE) ?_
    refine us_bipushC hR dX11_does_123 (c := 8) (by decide) ?_
    refine us_aload_n hR dX11_does_125 rfl ?_
    refine us_getIx hR dX11_does_126 fR_12_443 hE.2.1 rfl (RepM_f hP 52) ?_
    refine us_imul hR dX11_does_129 ?_
    refine us_iload_n hR dX11_does_130 rfl ?_
    refine us_iadd hR dX11_does_131 ?_
    refine us_aload_n hR dX11_does_132 rfl ?_
    refine us_callV hR dX11_does_133 (y := 12058) (by decide +kernel) (by decide) (J := i12058) rfl rfl rfl rfl hE.2.1 rfl (Nat.le_of_ble_eq_true rfl) (Nat.zero_le _) (Nat.zero_le _) ?_
    obtain ⟨q6, hs6⟩ := bO_ex ho
    obtain ⟨s6, r6⟩ := q6
    replace ho := bO_go ho hs6
    refine sp_12058 hE hP  hs6 (fun I6 hP6 hF6 => ?_)
    have hF6 := hF.tr hF6
    have hg := gd_c ho
    rw [gd_e hg] at ho
    refine us_iastoreM hE hP6 (em_q_55 hE) hR dX11_does_136 hg (fun I7 s7 hs7 hP7 hF7 => ?_)
    rw [← hs7, bS_eq] at ho
    have hF7 := hF6.tr hF7
    refine us_iload_n hR dX11_does_137 rfl ?_
    refine us_iconstC hR dX11_does_138 (c := 1) (by decide) ?_
    refine us_iadd hR dX11_does_139 ?_
    refine us_iret hR dX11_does_140 rfl rfl ?_
    cases ho
    exact h2 _ hP7 hF7
  · rw [if_neg (i_sw_x (v := 4) (w := 1) c3 (by decide)), if_neg (i_sw_x (v := 4) (w := 2) c3 (by decide)), if_neg (i_sw_x (v := 4) (w := 3) c3 (by decide)), if_pos (i_sw (v := 4) c3)] at ho
    exact h12067_J216 x0 (mg s 5 x0)  s I _ _ hP hF ho
  · rw [if_neg (i_sw_x (v := 5) (w := 1) c3 (by decide)), if_neg (i_sw_x (v := 5) (w := 2) c3 (by decide)), if_neg (i_sw_x (v := 5) (w := 3) c3 (by decide)), if_neg (i_sw_x (v := 5) (w := 4) c3 (by decide)), if_pos (i_sw (v := 5) c3)] at ho
    exact h12067_J216 x0 (mg s 5 x0)  s I _ _ hP hF ho
  · rw [if_neg (i_sw_x (v := 6) (w := 1) c3 (by decide)), if_neg (i_sw_x (v := 6) (w := 2) c3 (by decide)), if_neg (i_sw_x (v := 6) (w := 3) c3 (by decide)), if_neg (i_sw_x (v := 6) (w := 4) c3 (by decide)), if_neg (i_sw_x (v := 6) (w := 5) c3 (by decide)), if_pos (i_sw (v := 6) c3)] at ho
    exact h12067_J216 x0 (mg s 5 x0)  s I _ _ hP hF ho
  · rw [if_neg (i_sw_x (v := 7) (w := 1) c3 (by decide)), if_neg (i_sw_x (v := 7) (w := 2) c3 (by decide)), if_neg (i_sw_x (v := 7) (w := 3) c3 (by decide)), if_neg (i_sw_x (v := 7) (w := 4) c3 (by decide)), if_neg (i_sw_x (v := 7) (w := 5) c3 (by decide)), if_neg (i_sw_x (v := 7) (w := 6) c3 (by decide)), if_pos (i_sw (v := 7) c3)] at ho
    exact h12067_J216 x0 (mg s 5 x0)  s I _ _ hP hF ho
  · rw [if_neg (i_sw_x (v := 8) (w := 1) c3 (by decide)), if_neg (i_sw_x (v := 8) (w := 2) c3 (by decide)), if_neg (i_sw_x (v := 8) (w := 3) c3 (by decide)), if_neg (i_sw_x (v := 8) (w := 4) c3 (by decide)), if_neg (i_sw_x (v := 8) (w := 5) c3 (by decide)), if_neg (i_sw_x (v := 8) (w := 6) c3 (by decide)), if_neg (i_sw_x (v := 8) (w := 7) c3 (by decide)), if_pos (i_sw (v := 8) c3)] at ho
    refine us_aload_n hR dX11_does_141 rfl ?_
    refine us_aload_n hR dX11_does_142 rfl ?_
    refine us_callV hR dX11_does_143 (y := 12058) (by decide +kernel) (by decide) (J := i12058) rfl rfl rfl rfl hE.2.1 rfl (Nat.le_of_ble_eq_true rfl) (Nat.zero_le _) (Nat.zero_le _) ?_
    obtain ⟨q8, hs8⟩ := bO_ex ho
    obtain ⟨s8, r8⟩ := q8
    replace ho := bO_go ho hs8
    refine sp_12058 hE hP  hs8 (fun I8 hP8 hF8 => ?_)
    have hF8 := hF.tr hF8
    refine us_if_ne hR dX11_does_146 153 (by decide) (fun c9 => ?_) (fun c9 => ?_)
    · rw [if_neg c9] at ho
      refine us_iconstC hR dX11_does_153 (c := 1) (by decide) ?_
      exact h12067_J154 x0 (mg s 5 x0) 1  s8 I8 _ _ hP8 hF8 ho
    · rw [if_pos c9] at ho
      refine us_iconstC hR dX11_does_149 (c := 0) (by decide) ?_
      refine us_goto hR dX11_does_150 154 (by decide) ?_
      exact h12067_J154 x0 (mg s 5 x0) 0  s8 I8 _ _ hP8 hF8 ho
  · rw [if_neg (i_sw_x (v := 9) (w := 1) c3 (by decide)), if_neg (i_sw_x (v := 9) (w := 2) c3 (by decide)), if_neg (i_sw_x (v := 9) (w := 3) c3 (by decide)), if_neg (i_sw_x (v := 9) (w := 4) c3 (by decide)), if_neg (i_sw_x (v := 9) (w := 5) c3 (by decide)), if_neg (i_sw_x (v := 9) (w := 6) c3 (by decide)), if_neg (i_sw_x (v := 9) (w := 7) c3 (by decide)), if_neg (i_sw_x (v := 9) (w := 8) c3 (by decide)), if_pos (i_sw (v := 9) c3)] at ho
    exact h12067_J216 x0 (mg s 5 x0)  s I _ _ hP hF ho
  · rw [if_neg (i_sw_x (v := 10) (w := 1) c3 (by decide)), if_neg (i_sw_x (v := 10) (w := 2) c3 (by decide)), if_neg (i_sw_x (v := 10) (w := 3) c3 (by decide)), if_neg (i_sw_x (v := 10) (w := 4) c3 (by decide)), if_neg (i_sw_x (v := 10) (w := 5) c3 (by decide)), if_neg (i_sw_x (v := 10) (w := 6) c3 (by decide)), if_neg (i_sw_x (v := 10) (w := 7) c3 (by decide)), if_neg (i_sw_x (v := 10) (w := 8) c3 (by decide)), if_neg (i_sw_x (v := 10) (w := 9) c3 (by decide)), if_pos (i_sw (v := 10) c3)] at ho
    exact h12067_J216 x0 (mg s 5 x0)  s I _ _ hP hF ho
  · rw [if_neg (i_sw_x (v := 11) (w := 1) c3 (by decide)), if_neg (i_sw_x (v := 11) (w := 2) c3 (by decide)), if_neg (i_sw_x (v := 11) (w := 3) c3 (by decide)), if_neg (i_sw_x (v := 11) (w := 4) c3 (by decide)), if_neg (i_sw_x (v := 11) (w := 5) c3 (by decide)), if_neg (i_sw_x (v := 11) (w := 6) c3 (by decide)), if_neg (i_sw_x (v := 11) (w := 7) c3 (by decide)), if_neg (i_sw_x (v := 11) (w := 8) c3 (by decide)), if_neg (i_sw_x (v := 11) (w := 9) c3 (by decide)), if_neg (i_sw_x (v := 11) (w := 10) c3 (by decide)), if_pos (i_sw (v := 11) c3)] at ho
    refine us_aload_n hR dX11_does_161 rfl ?_
    refine us_callV hR dX11_does_162 (y := 12065) (by decide +kernel) (by decide) (J := i12065) rfl rfl rfl rfl hE.2.1 rfl (Nat.le_of_ble_eq_true rfl) (Nat.zero_le _) (Nat.zero_le _) ?_
    obtain ⟨s10, hs10⟩ := bOv_ex ho
    replace ho := bOv_go ho hs10
    refine sp_12065 hE hP  hs10 (fun I10 hP10 hF10 => ?_)
    have hF10 := hF.tr hF10
    refine us_iload_n hR dX11_does_165 rfl ?_
    refine us_iconstC hR dX11_does_166 (c := 1) (by decide) ?_
    refine us_iadd hR dX11_does_167 ?_
    refine us_iret hR dX11_does_168 rfl rfl ?_
    cases ho
    exact h2 _ hP10 hF10
  · rw [if_neg (i_sw_x (v := 12) (w := 1) c3 (by decide)), if_neg (i_sw_x (v := 12) (w := 2) c3 (by decide)), if_neg (i_sw_x (v := 12) (w := 3) c3 (by decide)), if_neg (i_sw_x (v := 12) (w := 4) c3 (by decide)), if_neg (i_sw_x (v := 12) (w := 5) c3 (by decide)), if_neg (i_sw_x (v := 12) (w := 6) c3 (by decide)), if_neg (i_sw_x (v := 12) (w := 7) c3 (by decide)), if_neg (i_sw_x (v := 12) (w := 8) c3 (by decide)), if_neg (i_sw_x (v := 12) (w := 9) c3 (by decide)), if_neg (i_sw_x (v := 12) (w := 10) c3 (by decide)), if_neg (i_sw_x (v := 12) (w := 11) c3 (by decide)), if_pos (i_sw (v := 12) c3)] at ho
    refine us_aload_n hR dX11_does_169 rfl ?_
    refine us_callV hR dX11_does_170 (y := 12064) (by decide +kernel) (by decide) (J := i12064) rfl rfl rfl rfl hE.2.1 rfl (Nat.le_of_ble_eq_true rfl) (Nat.zero_le _) (Nat.zero_le _) ?_
    obtain ⟨s11, hs11⟩ := bOv_ex ho
    replace ho := bOv_go ho hs11
    refine sp_12064 hE hP  hs11 (fun I11 hP11 hF11 => ?_)
    have hF11 := hF.tr hF11
    refine us_iload_n hR dX11_does_173 rfl ?_
    refine us_iconstC hR dX11_does_174 (c := 1) (by decide) ?_
    refine us_iadd hR dX11_does_175 ?_
    refine us_iret hR dX11_does_176 rfl rfl ?_
    cases ho
    exact h2 _ hP11 hF11
  · rw [if_neg (i_sw_x (v := 13) (w := 1) c3 (by decide)), if_neg (i_sw_x (v := 13) (w := 2) c3 (by decide)), if_neg (i_sw_x (v := 13) (w := 3) c3 (by decide)), if_neg (i_sw_x (v := 13) (w := 4) c3 (by decide)), if_neg (i_sw_x (v := 13) (w := 5) c3 (by decide)), if_neg (i_sw_x (v := 13) (w := 6) c3 (by decide)), if_neg (i_sw_x (v := 13) (w := 7) c3 (by decide)), if_neg (i_sw_x (v := 13) (w := 8) c3 (by decide)), if_neg (i_sw_x (v := 13) (w := 9) c3 (by decide)), if_neg (i_sw_x (v := 13) (w := 10) c3 (by decide)), if_neg (i_sw_x (v := 13) (w := 11) c3 (by decide)), if_neg (i_sw_x (v := 13) (w := 12) c3 (by decide)), if_pos (i_sw (v := 13) c3)] at ho
    refine us_aload_n hR dX11_does_177 rfl ?_
    refine us_callV hR dX11_does_178 (y := 12058) (by decide +kernel) (by decide) (J := i12058) rfl rfl rfl rfl hE.2.1 rfl (Nat.le_of_ble_eq_true rfl) (Nat.zero_le _) (Nat.zero_le _) ?_
    obtain ⟨q12, hs12⟩ := bO_ex ho
    obtain ⟨s12, r12⟩ := q12
    replace ho := bO_go ho hs12
    refine sp_12058 hE hP  hs12 (fun I12 hP12 hF12 => ?_)
    have hF12 := hF.tr hF12
    refine us_if_ne hR dX11_does_181 188 (by decide) (fun c13 => ?_) (fun c13 => ?_)
    · rw [if_neg c13] at ho
      refine us_iload_n hR dX11_does_188 rfl ?_
      refine us_iconstC hR dX11_does_189 (c := 1) (by decide) ?_
      refine us_iadd hR dX11_does_190 ?_
      refine us_iret hR dX11_does_191 rfl rfl ?_
      cases ho
      exact h2 _ hP12 hF12
    · rw [if_pos c13] at ho
      refine us_iload_n hR dX11_does_184 rfl ?_
      refine us_goto hR dX11_does_185 191 (by decide) ?_
      refine us_iret hR dX11_does_191 rfl rfl ?_
      cases ho
      exact h2 _ hP12 hF12
  · rw [if_neg (i_sw_x (v := 14) (w := 1) c3 (by decide)), if_neg (i_sw_x (v := 14) (w := 2) c3 (by decide)), if_neg (i_sw_x (v := 14) (w := 3) c3 (by decide)), if_neg (i_sw_x (v := 14) (w := 4) c3 (by decide)), if_neg (i_sw_x (v := 14) (w := 5) c3 (by decide)), if_neg (i_sw_x (v := 14) (w := 6) c3 (by decide)), if_neg (i_sw_x (v := 14) (w := 7) c3 (by decide)), if_neg (i_sw_x (v := 14) (w := 8) c3 (by decide)), if_neg (i_sw_x (v := 14) (w := 9) c3 (by decide)), if_neg (i_sw_x (v := 14) (w := 10) c3 (by decide)), if_neg (i_sw_x (v := 14) (w := 11) c3 (by decide)), if_neg (i_sw_x (v := 14) (w := 12) c3 (by decide)), if_neg (i_sw_x (v := 14) (w := 13) c3 (by decide)), if_pos (i_sw (v := 14) c3)] at ho
    refine us_iload_n hR dX11_does_192 rfl ?_
    refine us_iret hR dX11_does_193 rfl rfl ?_
    cases ho
    exact h2 _ hP hF
  · rw [if_neg (i_sw_x (v := 15) (w := 1) c3 (by decide)), if_neg (i_sw_x (v := 15) (w := 2) c3 (by decide)), if_neg (i_sw_x (v := 15) (w := 3) c3 (by decide)), if_neg (i_sw_x (v := 15) (w := 4) c3 (by decide)), if_neg (i_sw_x (v := 15) (w := 5) c3 (by decide)), if_neg (i_sw_x (v := 15) (w := 6) c3 (by decide)), if_neg (i_sw_x (v := 15) (w := 7) c3 (by decide)), if_neg (i_sw_x (v := 15) (w := 8) c3 (by decide)), if_neg (i_sw_x (v := 15) (w := 9) c3 (by decide)), if_neg (i_sw_x (v := 15) (w := 10) c3 (by decide)), if_neg (i_sw_x (v := 15) (w := 11) c3 (by decide)), if_neg (i_sw_x (v := 15) (w := 12) c3 (by decide)), if_neg (i_sw_x (v := 15) (w := 13) c3 (by decide)), if_neg (i_sw_x (v := 15) (w := 14) c3 (by decide)), if_pos (i_sw (v := 15) c3)] at ho
    refine us_aload_n hR dX11_does_194 rfl ?_
    refine us_dup hR dX11_does_195 rfl ?_
    refine us_getIx hR dX11_does_196 fR_12_443 hE.2.1 rfl (RepM_f hP 52) ?_
    refine us_iconstC hR dX11_does_199 (c := 1) (by decide) ?_
    refine us_isub hR dX11_does_200 ?_
    refine us_putIM hE hP 52 hR dX11_does_201 fR_12_443 (Or.inl rfl) rfl rfl (fun I14 s14 hs14 hP14 hF14 => ?_)
    rw [← hs14, bS_eq] at ho
    have hF14 := hF.tr hF14
    refine us_aload_n hR dX11_does_204 rfl ?_
    refine us_getR hR dX11_does_205 fR_12_105 hE.2.1 rfl (em_r_56 hE) ?_
    refine us_aload_n hR dX11_does_208 rfl ?_
    refine us_getIx hR dX11_does_209 fR_12_443 hE.2.1 rfl (RepM_f hP14 52) ?_
    refine us_iconstC hR dX11_does_212 (c := 1) (by decide) ?_
    refine us_iadd hR dX11_does_213 ?_
    have hg := gd_c ho
    rw [gd_e hg] at ho
    refine us_ialoadM hE hP14 (em_q_56 hE) hR dX11_does_214 hg ?_
    refine us_iret hR dX11_does_215 rfl rfl ?_
    cases ho
    exact h2 _ hP14 hF14
def f_12068_J184  (l1 : Int32) (l2 : Int32) (l3 : Int32) (l4 : Int32) (k0 : Int32) (s : Mx) : Option (Mx × Int32) :=
  bOv (f_12057 k0 s) fun s1 =>
  bS (mp s1 51 ((mf s1 51) + 1)) fun s2 =>
  some (s2, (l1 + 1))
def f_12068_J168  (l1 : Int32) (l2 : Int32) (l3 : Int32) (l4 : Int32) (k0 : Int32) (s : Mx) : Option (Mx × Int32) :=
  bS (mp s 50 k0) fun s3 =>
  if (mf s3 51) = 0 then
    f_12068_J184 l1 l2 l3 l4 l2 s3
  else
    f_12068_J184 l1 l2 l3 l4 l3 s3
def f_12068_J137  (l1 : Int32) (l2 : Int32) (l3 : Int32) (l4 : Int32) (l5 : Int32) (l6 : Int32) (s : Mx) : Option (Mx × Int32) :=
  if l6 = 0 then
    some (s, (l1 + 1))
  else
    some (s, l4)
def f_12068_J134  (l1 : Int32) (l2 : Int32) (l3 : Int32) (l4 : Int32) (l5 : Int32) (l6 : Int32) (k0 : Int32) (s : Mx) : Option (Mx × Int32) :=
  bOv (f_12057 k0 s) fun s6 =>
  f_12068_J137 l1 l2 l3 l4 l5 l6 s6
def f_12068_J116  (l1 : Int32) (l2 : Int32) (l3 : Int32) (l4 : Int32) (l5 : Int32) (k0 : Int32) (s : Mx) : Option (Mx × Int32) :=
  if k0 = 0 then
    f_12068_J137 l1 l2 l3 l4 l5 k0 s
  else
    if l5 = 0 then
      f_12068_J134 l1 l2 l3 l4 l5 k0 0 s
    else
      f_12068_J134 l1 l2 l3 l4 l5 k0 1 s
def f_12068_J108  (l1 : Int32) (l2 : Int32) (l3 : Int32) (l4 : Int32) (l5 : Int32) (k0 : Int32) (k1 : Int32) (s : Mx) : Option (Mx × Int32) :=
  if k1 = k0 then
    f_12068_J116 l1 l2 l3 l4 l5 1 s
  else
    f_12068_J116 l1 l2 l3 l4 l5 0 s
def f_12068_J88  (l1 : Int32) (l2 : Int32) (l3 : Int32) (l4 : Int32) (k0 : Int32) (s : Mx) : Option (Mx × Int32) :=
  gd (vi l1 1200) <|
  if (mg s 4 l1) = 7 then
    f_12068_J108 l1 l2 l3 l4 k0 1 k0 s
  else
    f_12068_J108 l1 l2 l3 l4 k0 0 k0 s
def f_12068_J76  (l1 : Int32) (l2 : Int32) (l3 : Int32) (l4 : Int32) (s : Mx) : Option (Mx × Int32) :=
  bO (f_12058 s) fun s11 r11 =>
  if r11 = 0 then
    f_12068_J88 l1 l2 l3 l4 0 s11
  else
    f_12068_J88 l1 l2 l3 l4 1 s11
def f_12068 (x0 : Int32) (x1 : Int32) (x2 : Int32) (s : Mx) : Option (Mx × Int32) :=
  gd (vi x0 1200) <|
  gd (vi x0 1200) <|
  if (mg s 4 x0) = 4 then
    bOv (f_12061 (mg s 5 x0) s) fun s14 =>
    some (s14, (x0 + 1))
  else if (mg s 4 x0) = 5 then
    bOv (f_12062 (mg s 5 x0) s) fun s15 =>
    some (s15, (x0 + 1))
  else if (mg s 4 x0) = 6 then
    f_12068_J76 x0 x1 x2 (mg s 5 x0) s
  else if (mg s 4 x0) = 7 then
    f_12068_J76 x0 x1 x2 (mg s 5 x0) s
  else if (mg s 4 x0) = 8 then
    some (s, (x0 + 1))
  else if (mg s 4 x0) = 9 then
    if (mf s 51) = 2 then
      f_12068_J168 x0 x1 x2 (mg s 5 x0) 5 s
    else
      f_12068_J168 x0 x1 x2 (mg s 5 x0) (mf s 50) s
  else if (mg s 4 x0) = 10 then
    bO (f_12066 (mg s 5 x0) (x0 + 1) s) fun s17 r17 =>
    some (s17, r17)
  else
    some (s, (x0 + 1))
theorem sp_12068 {d : Nat} {G : ab_G} {ad : Nat → Nat} {I : Nat → Nat → Int32} {s : Mx} {P : ab_Pq} {X : ab_Xq} (hE : EM G ad) (hP : RepM I ad s) {x0 : Int32} {x1 : Int32} {x2 : Int32}  {o : Mx × Int32} (ho : f_12068 x0 x1 x2 s = some o) (h : ∀ I1, RepM I1 ad o.1 → FrM ad I I1 → P (gW G I1) (some (.int o.2))) : ab_Gam (d + 5) 12068 [.ref (ad 0), .int x0, .int x1, .int x2] (gW G I) P X := by
  have h2 := h
  have hF : FrM ad I I := FrM_rfl
  unfold f_12068 at ho
  refine ab_enter (I := i12068) rfl (Nat.le_of_ble_eq_true rfl) (fun R hR => ?_)
  have h12068_J184 : ∀ (l1 : Int32) (l2 : Int32) (l3 : Int32) (l4 : Int32) (k0 : Int32)  (s : Mx) (Ia : Nat → Nat → Int32) (bc bs : Nat) (hPa : RepM Ia ad s) (hFa : FrM ad I Ia) (ho : f_12068_J184 l1 l2 l3 l4 k0 s = some o), R 184 [some (.ref (ad 0)), some (.int l1), some (.int l2), some (.int l3), some (.int l4), none, none] [.int k0, .ref (ad 0)] (gW G Ia) bc bs := by
    intro l1 l2 l3 l4 k0  s Ia bc bs  hPa hFa ho
    unfold f_12068_J184 at ho
    refine us_callV hR dX11_doesBurnt_184 (y := 12057) (by decide +kernel) (by decide) (J := i12057) rfl rfl rfl rfl hE.2.1 rfl (Nat.le_of_ble_eq_true rfl) (Nat.zero_le _) (Nat.zero_le _) ?_
    obtain ⟨s1, hs1⟩ := bOv_ex ho
    replace ho := bOv_go ho hs1
    refine sp_12057 hE hPa  hs1 (fun I1 hP1 hF1 => ?_)
    have hF1 := hFa.tr hF1
    refine us_aload_n hR dX11_doesBurnt_187 rfl ?_
    refine us_dup hR dX11_doesBurnt_188 rfl ?_
    refine us_getIx hR dX11_doesBurnt_189 fR_12_458 hE.2.1 rfl (RepM_f hP1 51) ?_
    refine us_iconstC hR dX11_doesBurnt_192 (c := 1) (by decide) ?_
    refine us_iadd hR dX11_doesBurnt_193 ?_
    refine us_putIM hE hP1 51 hR dX11_doesBurnt_194 fR_12_458 (Or.inl rfl) rfl rfl (fun I2 s2 hs2 hP2 hF2 => ?_)
    rw [← hs2, bS_eq] at ho
    have hF2 := hF1.tr hF2
    refine us_iload_n hR dX11_doesBurnt_197 rfl ?_
    refine us_iconstC hR dX11_doesBurnt_198 (c := 1) (by decide) ?_
    refine us_iadd hR dX11_doesBurnt_199 ?_
    refine us_iret hR dX11_doesBurnt_200 rfl rfl ?_
    cases ho
    exact h2 _ hP2 hF2
  have h12068_J168 : ∀ (l1 : Int32) (l2 : Int32) (l3 : Int32) (l4 : Int32) (k0 : Int32)  (s : Mx) (Ia : Nat → Nat → Int32) (bc bs : Nat) (hPa : RepM Ia ad s) (hFa : FrM ad I Ia) (ho : f_12068_J168 l1 l2 l3 l4 k0 s = some o), R 168 [some (.ref (ad 0)), some (.int l1), some (.int l2), some (.int l3), some (.int l4), none, none] [.int k0, .ref (ad 0)] (gW G Ia) bc bs := by
    intro l1 l2 l3 l4 k0  s Ia bc bs  hPa hFa ho
    unfold f_12068_J168 at ho
    refine us_putIM hE hPa 50 hR dX11_doesBurnt_168 fR_12_413 (Or.inl rfl) rfl rfl (fun I3 s3 hs3 hP3 hF3 => ?_)
    rw [← hs3, bS_eq] at ho
    have hF3 := hFa.tr hF3
    refine us_aload_n hR dX11_doesBurnt_171 rfl ?_
    refine us_aload_n hR dX11_doesBurnt_172 rfl ?_
    refine us_getIx hR dX11_doesBurnt_173 fR_12_458 hE.2.1 rfl (RepM_f hP3 51) ?_
    refine us_if_ne hR dX11_doesBurnt_176 183 (by decide) (fun c4 => ?_) (fun c4 => ?_)
    · rw [if_neg c4] at ho
      refine us_iload_n hR dX11_doesBurnt_183 rfl ?_
      exact h12068_J184 l1 l2 l3 l4 l3  s3 I3 _ _ hP3 hF3 ho
    · rw [if_pos c4] at ho
      refine us_iload_n hR dX11_doesBurnt_179 rfl ?_
      refine us_goto hR dX11_doesBurnt_180 184 (by decide) ?_
      exact h12068_J184 l1 l2 l3 l4 l2  s3 I3 _ _ hP3 hF3 ho
  have h12068_J137 : ∀ (l1 : Int32) (l2 : Int32) (l3 : Int32) (l4 : Int32) (l5 : Int32) (l6 : Int32)  (s : Mx) (Ia : Nat → Nat → Int32) (bc bs : Nat) (hPa : RepM Ia ad s) (hFa : FrM ad I Ia) (ho : f_12068_J137 l1 l2 l3 l4 l5 l6 s = some o), R 137 [some (.ref (ad 0)), some (.int l1), some (.int l2), some (.int l3), some (.int l4), some (.int l5), some (.int l6)] [] (gW G Ia) bc bs := by
    intro l1 l2 l3 l4 l5 l6  s Ia bc bs  hPa hFa ho
    unfold f_12068_J137 at ho
    refine us_iload hR dX11_doesBurnt_137 rfl ?_
    refine us_if_eq hR dX11_doesBurnt_139 147 (by decide) (fun c5 => ?_) (fun c5 => ?_)
    · rw [if_pos c5] at ho
      refine us_iload_n hR dX11_doesBurnt_147 rfl ?_
      refine us_iconstC hR dX11_doesBurnt_148 (c := 1) (by decide) ?_
      refine us_iadd hR dX11_doesBurnt_149 ?_
      refine us_iret hR dX11_doesBurnt_150 rfl rfl ?_
      cases ho
      exact h2 _ hPa hFa
    · rw [if_neg c5] at ho
      refine us_iload hR dX11_doesBurnt_142 rfl ?_
      refine us_goto hR dX11_doesBurnt_144 150 (by decide) ?_
      refine us_iret hR dX11_doesBurnt_150 rfl rfl ?_
      cases ho
      exact h2 _ hPa hFa
  have h12068_J134 : ∀ (l1 : Int32) (l2 : Int32) (l3 : Int32) (l4 : Int32) (l5 : Int32) (l6 : Int32) (k0 : Int32)  (s : Mx) (Ia : Nat → Nat → Int32) (bc bs : Nat) (hPa : RepM Ia ad s) (hFa : FrM ad I Ia) (ho : f_12068_J134 l1 l2 l3 l4 l5 l6 k0 s = some o), R 134 [some (.ref (ad 0)), some (.int l1), some (.int l2), some (.int l3), some (.int l4), some (.int l5), some (.int l6)] [.int k0, .ref (ad 0)] (gW G Ia) bc bs := by
    intro l1 l2 l3 l4 l5 l6 k0  s Ia bc bs  hPa hFa ho
    unfold f_12068_J134 at ho
    refine us_callV hR dX11_doesBurnt_134 (y := 12057) (by decide +kernel) (by decide) (J := i12057) rfl rfl rfl rfl hE.2.1 rfl (Nat.le_of_ble_eq_true rfl) (Nat.zero_le _) (Nat.zero_le _) ?_
    obtain ⟨s6, hs6⟩ := bOv_ex ho
    replace ho := bOv_go ho hs6
    refine sp_12057 hE hPa  hs6 (fun I6 hP6 hF6 => ?_)
    have hF6 := hFa.tr hF6
    exact h12068_J137 l1 l2 l3 l4 l5 l6  s6 I6 _ _ hP6 hF6 ho
  have h12068_J116 : ∀ (l1 : Int32) (l2 : Int32) (l3 : Int32) (l4 : Int32) (l5 : Int32) (k0 : Int32)  (s : Mx) (Ia : Nat → Nat → Int32) (bc bs : Nat) (hPa : RepM Ia ad s) (hFa : FrM ad I Ia) (ho : f_12068_J116 l1 l2 l3 l4 l5 k0 s = some o), R 116 [some (.ref (ad 0)), some (.int l1), some (.int l2), some (.int l3), some (.int l4), some (.int l5), none] [.int k0] (gW G Ia) bc bs := by
    intro l1 l2 l3 l4 l5 k0  s Ia bc bs  hPa hFa ho
    unfold f_12068_J116 at ho
    refine us_istore hR dX11_doesBurnt_116 (Nat.le_of_ble_eq_true rfl) ?_
    refine us_iload hR dX11_doesBurnt_118 rfl ?_
    refine us_if_eq hR dX11_doesBurnt_120 137 (by decide) (fun c7 => ?_) (fun c7 => ?_)
    · rw [if_pos c7] at ho
      exact h12068_J137 l1 l2 l3 l4 l5 k0  s Ia _ _ hPa hFa ho
    · rw [if_neg c7] at ho
      refine us_aload_n hR dX11_doesBurnt_123 rfl ?_
      refine us_iload hR dX11_doesBurnt_124 rfl ?_
      refine us_if_eq hR dX11_doesBurnt_126 133 (by decide) (fun c8 => ?_) (fun c8 => ?_)
      · rw [if_pos c8] at ho
        refine us_iconstC hR dX11_doesBurnt_133 (c := 0) (by decide) ?_
        exact h12068_J134 l1 l2 l3 l4 l5 k0 0  s Ia _ _ hPa hFa ho
      · rw [if_neg c8] at ho
        refine us_iconstC hR dX11_doesBurnt_129 (c := 1) (by decide) ?_
        refine us_goto hR dX11_doesBurnt_130 134 (by decide) ?_
        exact h12068_J134 l1 l2 l3 l4 l5 k0 1  s Ia _ _ hPa hFa ho
  have h12068_J108 : ∀ (l1 : Int32) (l2 : Int32) (l3 : Int32) (l4 : Int32) (l5 : Int32) (k0 : Int32) (k1 : Int32)  (s : Mx) (Ia : Nat → Nat → Int32) (bc bs : Nat) (hPa : RepM Ia ad s) (hFa : FrM ad I Ia) (ho : f_12068_J108 l1 l2 l3 l4 l5 k0 k1 s = some o), R 108 [some (.ref (ad 0)), some (.int l1), some (.int l2), some (.int l3), some (.int l4), some (.int l5), none] [.int k0, .int k1] (gW G Ia) bc bs := by
    intro l1 l2 l3 l4 l5 k0 k1  s Ia bc bs  hPa hFa ho
    unfold f_12068_J108 at ho
    refine us_icmp_ne hR dX11_doesBurnt_108 115 (by decide) (fun c9 => ?_) (fun c9 => ?_)
    · rw [if_neg c9] at ho
      refine us_iconstC hR dX11_doesBurnt_115 (c := 0) (by decide) ?_
      exact h12068_J116 l1 l2 l3 l4 l5 0  s Ia _ _ hPa hFa ho
    · rw [if_pos c9] at ho
      refine us_iconstC hR dX11_doesBurnt_111 (c := 1) (by decide) ?_
      refine us_goto hR dX11_doesBurnt_112 116 (by decide) ?_
      exact h12068_J116 l1 l2 l3 l4 l5 1  s Ia _ _ hPa hFa ho
  have h12068_J88 : ∀ (l1 : Int32) (l2 : Int32) (l3 : Int32) (l4 : Int32) (k0 : Int32)  (s : Mx) (Ia : Nat → Nat → Int32) (bc bs : Nat) (hPa : RepM Ia ad s) (hFa : FrM ad I Ia) (ho : f_12068_J88 l1 l2 l3 l4 k0 s = some o), R 88 [some (.ref (ad 0)), some (.int l1), some (.int l2), some (.int l3), some (.int l4), none, none] [.int k0] (gW G Ia) bc bs := by
    intro l1 l2 l3 l4 k0  s Ia bc bs  hPa hFa ho
    unfold f_12068_J88 at ho
    refine us_istore hR dX11_doesBurnt_88 (Nat.le_of_ble_eq_true rfl) ?_
    refine us_iload hR dX11_doesBurnt_90 rfl ?_
    refine us_aload_n hR dX11_doesBurnt_92 rfl ?_
    refine us_getR hR dX11_doesBurnt_93 fR_12_19 hE.2.1 rfl (em_r_12 hE) ?_
    refine us_iload_n hR dX11_doesBurnt_96 rfl ?_
    have hg := gd_c ho
    rw [gd_e hg] at ho
    refine us_ialoadM hE hPa (em_q_12 hE) hR dX11_doesBurnt_97 hg ?_
    refine us_bipushC hR dX11_doesBurnt_98 (c := 7) (by decide) ?_
    refine us_icmp_ne hR dX11_doesBurnt_100 107 (by decide) (fun c10 => ?_) (fun c10 => ?_)
    · rw [if_neg c10] at ho
      refine us_iconstC hR dX11_doesBurnt_107 (c := 0) (by decide) ?_
      exact h12068_J108 l1 l2 l3 l4 k0 0 k0  s Ia _ _ hPa hFa ho
    · rw [if_pos c10] at ho
      refine us_iconstC hR dX11_doesBurnt_103 (c := 1) (by decide) ?_
      refine us_goto hR dX11_doesBurnt_104 108 (by decide) ?_
      exact h12068_J108 l1 l2 l3 l4 k0 1 k0  s Ia _ _ hPa hFa ho
  have h12068_J76 : ∀ (l1 : Int32) (l2 : Int32) (l3 : Int32) (l4 : Int32)  (s : Mx) (Ia : Nat → Nat → Int32) (bc bs : Nat) (hPa : RepM Ia ad s) (hFa : FrM ad I Ia) (ho : f_12068_J76 l1 l2 l3 l4 s = some o), R 76 [some (.ref (ad 0)), some (.int l1), some (.int l2), some (.int l3), some (.int l4), none, none] [] (gW G Ia) bc bs := by
    intro l1 l2 l3 l4  s Ia bc bs  hPa hFa ho
    unfold f_12068_J76 at ho
    refine us_aload_n hR dX11_doesBurnt_76 rfl ?_
    refine us_callV hR dX11_doesBurnt_77 (y := 12058) (by decide +kernel) (by decide) (J := i12058) rfl rfl rfl rfl hE.2.1 rfl (Nat.le_of_ble_eq_true rfl) (Nat.zero_le _) (Nat.zero_le _) ?_
    obtain ⟨q11, hs11⟩ := bO_ex ho
    obtain ⟨s11, r11⟩ := q11
    replace ho := bO_go ho hs11
    refine sp_12058 hE hPa  hs11 (fun I11 hP11 hF11 => ?_)
    have hF11 := hFa.tr hF11
    refine us_if_eq hR dX11_doesBurnt_80 87 (by decide) (fun c12 => ?_) (fun c12 => ?_)
    · rw [if_pos c12] at ho
      refine us_iconstC hR dX11_doesBurnt_87 (c := 0) (by decide) ?_
      exact h12068_J88 l1 l2 l3 l4 0  s11 I11 _ _ hP11 hF11 ho
    · rw [if_neg c12] at ho
      refine us_iconstC hR dX11_doesBurnt_83 (c := 1) (by decide) ?_
      refine us_goto hR dX11_doesBurnt_84 88 (by decide) ?_
      exact h12068_J88 l1 l2 l3 l4 1  s11 I11 _ _ hP11 hF11 ho
  refine us_aload_n hR dX11_doesBurnt_0 rfl ?_
  refine us_getR hR dX11_doesBurnt_1 fR_12_23 hE.2.1 rfl (em_r_13 hE) ?_
  refine us_iload_n hR dX11_doesBurnt_4 rfl ?_
  have hg := gd_c ho
  rw [gd_e hg] at ho
  refine us_ialoadM hE hP (em_q_13 hE) hR dX11_doesBurnt_5 hg ?_
  refine us_istore hR dX11_doesBurnt_6 (Nat.le_of_ble_eq_true rfl) ?_
  refine us_aload_n hR dX11_doesBurnt_8 rfl ?_
  refine us_getR hR dX11_doesBurnt_9 fR_12_19 hE.2.1 rfl (em_r_12 hE) ?_
  refine us_iload_n hR dX11_doesBurnt_12 rfl ?_
  have hg := gd_c ho
  rw [gd_e hg] at ho
  refine us_ialoadM hE hP (em_q_12 hE) hR dX11_doesBurnt_13 hg ?_
  refine us_tsw hR dX11_doesBurnt_14 (fun c13 => ⟨by decide, ?_⟩) (by decide) ⟨fun c13 => ⟨by decide, ?_⟩, fun c13 => ⟨by decide, ?_⟩, fun c13 => ⟨by decide, ?_⟩, fun c13 => ⟨by decide, ?_⟩, fun c13 => ⟨by decide, ?_⟩, fun c13 => ⟨by decide, ?_⟩, fun c13 => ⟨by decide, ?_⟩, trivial⟩
  · rw [if_neg (i_sw_d (v := 4) c13 (by decide)), if_neg (i_sw_d (v := 5) c13 (by decide)), if_neg (i_sw_d (v := 6) c13 (by decide)), if_neg (i_sw_d (v := 7) c13 (by decide)), if_neg (i_sw_d (v := 8) c13 (by decide)), if_neg (i_sw_d (v := 9) c13 (by decide)), if_neg (i_sw_d (v := 10) c13 (by decide))] at ho
    refine us_iload_n hR dX11_doesBurnt_211 rfl ?_
    refine us_iconstC hR dX11_doesBurnt_212 (c := 1) (by decide) ?_
    refine us_iadd hR dX11_doesBurnt_213 ?_
    refine us_iret hR dX11_doesBurnt_214 rfl rfl ?_
    cases ho
    exact h2 _ hP hF
  · rw [if_pos (i_sw (v := 4) c13)] at ho
    refine us_aload_n hR dX11_doesBurnt_56 rfl ?_
    refine us_iload hR dX11_doesBurnt_57 rfl ?_
    refine us_callV hR dX11_doesBurnt_59 (y := 12061) (by decide +kernel) (by decide) (J := i12061) rfl rfl rfl rfl hE.2.1 rfl (Nat.le_of_ble_eq_true rfl) (Nat.zero_le _) (Nat.zero_le _) ?_
    obtain ⟨s14, hs14⟩ := bOv_ex ho
    replace ho := bOv_go ho hs14
    refine sp_12061 hE hP  hs14 (fun I14 hP14 hF14 => ?_)
    have hF14 := hF.tr hF14
    refine us_iload_n hR dX11_doesBurnt_62 rfl ?_
    refine us_iconstC hR dX11_doesBurnt_63 (c := 1) (by decide) ?_
    refine us_iadd hR dX11_doesBurnt_64 ?_
    refine us_iret hR dX11_doesBurnt_65 rfl rfl ?_
    cases ho
    exact h2 _ hP14 hF14
  · rw [if_neg (i_sw_x (v := 5) (w := 4) c13 (by decide)), if_pos (i_sw (v := 5) c13)] at ho
    refine us_aload_n hR dX11_doesBurnt_66 rfl ?_
    refine us_iload hR dX11_doesBurnt_67 rfl ?_
    refine us_callV hR dX11_doesBurnt_69 (y := 12062) (by decide +kernel) (by decide) (J := i12062) rfl rfl rfl rfl hE.2.1 rfl (Nat.le_of_ble_eq_true rfl) (Nat.zero_le _) (Nat.zero_le _) ?_
    obtain ⟨s15, hs15⟩ := bOv_ex ho
    replace ho := bOv_go ho hs15
    refine sp_12062 hE hP  hs15 (fun I15 hP15 hF15 => ?_)
    have hF15 := hF.tr hF15
    refine us_iload_n hR dX11_doesBurnt_72 rfl ?_
    refine us_iconstC hR dX11_doesBurnt_73 (c := 1) (by decide) ?_
    refine us_iadd hR dX11_doesBurnt_74 ?_
    refine us_iret hR dX11_doesBurnt_75 rfl rfl ?_
    cases ho
    exact h2 _ hP15 hF15
  · rw [if_neg (i_sw_x (v := 6) (w := 4) c13 (by decide)), if_neg (i_sw_x (v := 6) (w := 5) c13 (by decide)), if_pos (i_sw (v := 6) c13)] at ho
    exact h12068_J76 x0 x1 x2 (mg s 5 x0)  s I _ _ hP hF ho
  · rw [if_neg (i_sw_x (v := 7) (w := 4) c13 (by decide)), if_neg (i_sw_x (v := 7) (w := 5) c13 (by decide)), if_neg (i_sw_x (v := 7) (w := 6) c13 (by decide)), if_pos (i_sw (v := 7) c13)] at ho
    exact h12068_J76 x0 x1 x2 (mg s 5 x0)  s I _ _ hP hF ho
  · rw [if_neg (i_sw_x (v := 8) (w := 4) c13 (by decide)), if_neg (i_sw_x (v := 8) (w := 5) c13 (by decide)), if_neg (i_sw_x (v := 8) (w := 6) c13 (by decide)), if_neg (i_sw_x (v := 8) (w := 7) c13 (by decide)), if_pos (i_sw (v := 8) c13)] at ho
    refine us_iload_n hR dX11_doesBurnt_211 rfl ?_
    refine us_iconstC hR dX11_doesBurnt_212 (c := 1) (by decide) ?_
    refine us_iadd hR dX11_doesBurnt_213 ?_
    refine us_iret hR dX11_doesBurnt_214 rfl rfl ?_
    cases ho
    exact h2 _ hP hF
  · rw [if_neg (i_sw_x (v := 9) (w := 4) c13 (by decide)), if_neg (i_sw_x (v := 9) (w := 5) c13 (by decide)), if_neg (i_sw_x (v := 9) (w := 6) c13 (by decide)), if_neg (i_sw_x (v := 9) (w := 7) c13 (by decide)), if_neg (i_sw_x (v := 9) (w := 8) c13 (by decide)), if_pos (i_sw (v := 9) c13)] at ho
    refine us_aload_n hR dX11_doesBurnt_151 rfl ?_
    refine us_aload_n hR dX11_doesBurnt_152 rfl ?_
    refine us_getIx hR dX11_doesBurnt_153 fR_12_458 hE.2.1 rfl (RepM_f hP 51) ?_
    refine us_iconstC hR dX11_doesBurnt_156 (c := 2) (by decide) ?_
    refine us_icmp_ne hR dX11_doesBurnt_157 164 (by decide) (fun c16 => ?_) (fun c16 => ?_)
    · rw [if_neg c16] at ho
      refine us_aload_n hR dX11_doesBurnt_164 rfl ?_
      refine us_getIx hR dX11_doesBurnt_165 fR_12_413 hE.2.1 rfl (RepM_f hP 50) ?_
      exact h12068_J168 x0 x1 x2 (mg s 5 x0) (mf s 50)  s I _ _ hP hF ho
    · rw [if_pos c16] at ho
      refine us_iconstC hR dX11_doesBurnt_160 (c := 5) (by decide) ?_
      refine us_goto hR dX11_doesBurnt_161 168 (by decide) ?_
      exact h12068_J168 x0 x1 x2 (mg s 5 x0) 5  s I _ _ hP hF ho
  · rw [if_neg (i_sw_x (v := 10) (w := 4) c13 (by decide)), if_neg (i_sw_x (v := 10) (w := 5) c13 (by decide)), if_neg (i_sw_x (v := 10) (w := 6) c13 (by decide)), if_neg (i_sw_x (v := 10) (w := 7) c13 (by decide)), if_neg (i_sw_x (v := 10) (w := 8) c13 (by decide)), if_neg (i_sw_x (v := 10) (w := 9) c13 (by decide)), if_pos (i_sw (v := 10) c13)] at ho
    refine us_aload_n hR dX11_doesBurnt_201 rfl ?_
    refine us_iload hR dX11_doesBurnt_202 rfl ?_
    refine us_iload_n hR dX11_doesBurnt_204 rfl ?_
    refine us_iconstC hR dX11_doesBurnt_205 (c := 1) (by decide) ?_
    refine us_iadd hR dX11_doesBurnt_206 ?_
    refine us_callV hR dX11_doesBurnt_207 (y := 12066) (by decide +kernel) (by decide) (J := i12066) rfl rfl rfl rfl hE.2.1 rfl (Nat.le_of_ble_eq_true rfl) (Nat.zero_le _) (Nat.zero_le _) ?_
    obtain ⟨q17, hs17⟩ := bO_ex ho
    obtain ⟨s17, r17⟩ := q17
    replace ho := bO_go ho hs17
    refine sp_12066 hE hP  hs17 (fun I17 hP17 hF17 => ?_)
    have hF17 := hF.tr hF17
    refine us_iret hR dX11_doesBurnt_210 rfl rfl ?_
    cases ho
    exact h2 _ hP17 hF17
def f_12069 (x0 : Int32) (s : Mx) : Int32 :=
  if x0 = 0 then
    1
  else
    if x0 = 4 then
      1
    else
      if x0 = 5 then
        1
      else
        if x0 = 6 then
          1
        else
          if x0 = 7 then
            1
          else
            if x0 = 9 then
              1
            else
              if x0 = 10 then
                1
              else
                0
theorem sp_12069 {d : Nat} {G : ab_G} {ad : Nat → Nat} {I : Nat → Nat → Int32} {s : Mx} {P : ab_Pq} {X : ab_Xq} (hE : EM G ad) (hP : RepM I ad s) {x0 : Int32}  (h : (f_12069 x0 s = 0 ∨ f_12069 x0 s = 1) → P (gW G I) (some (.int (f_12069 x0 s)))) : ab_Gam (d + 1) 12069 [.int x0] (gW G I) P X := by
  obtain ⟨o, ho⟩ : ∃ o, o = f_12069 x0 s := ⟨_, rfl⟩
  rw [← ho] at h
  have h2 := h
  have hF : FrM ad I I := FrM_rfl
  unfold f_12069 at ho
  refine ab_enter (I := i12069) rfl (Nat.le_of_ble_eq_true rfl) (fun R hR => ?_)
  refine us_iload_n hR dX11_needsFuel_0 rfl ?_
  refine us_if_eq hR dX11_needsFuel_1 38 (by decide) (fun c1 => ?_) (fun c1 => ?_)
  · rw [if_pos c1] at ho
    refine us_iconstC hR dX11_needsFuel_38 (c := 1) (by decide) ?_
    refine us_goto hR dX11_needsFuel_39 43 (by decide) ?_
    refine us_iret hR dX11_needsFuel_43 rfl (nar01 (Or.inr rfl)) ?_
    subst ho
    exact h2 (Or.inr rfl) 
  · rw [if_neg c1] at ho
    refine us_iload_n hR dX11_needsFuel_4 rfl ?_
    refine us_iconstC hR dX11_needsFuel_5 (c := 4) (by decide) ?_
    refine us_icmp_eq hR dX11_needsFuel_6 38 (by decide) (fun c2 => ?_) (fun c2 => ?_)
    · rw [if_pos c2] at ho
      refine us_iconstC hR dX11_needsFuel_38 (c := 1) (by decide) ?_
      refine us_goto hR dX11_needsFuel_39 43 (by decide) ?_
      refine us_iret hR dX11_needsFuel_43 rfl (nar01 (Or.inr rfl)) ?_
      subst ho
      exact h2 (Or.inr rfl) 
    · rw [if_neg c2] at ho
      refine us_iload_n hR dX11_needsFuel_9 rfl ?_
      refine us_iconstC hR dX11_needsFuel_10 (c := 5) (by decide) ?_
      refine us_icmp_eq hR dX11_needsFuel_11 38 (by decide) (fun c3 => ?_) (fun c3 => ?_)
      · rw [if_pos c3] at ho
        refine us_iconstC hR dX11_needsFuel_38 (c := 1) (by decide) ?_
        refine us_goto hR dX11_needsFuel_39 43 (by decide) ?_
        refine us_iret hR dX11_needsFuel_43 rfl (nar01 (Or.inr rfl)) ?_
        subst ho
        exact h2 (Or.inr rfl) 
      · rw [if_neg c3] at ho
        refine us_iload_n hR dX11_needsFuel_14 rfl ?_
        refine us_bipushC hR dX11_needsFuel_15 (c := 6) (by decide) ?_
        refine us_icmp_eq hR dX11_needsFuel_17 38 (by decide) (fun c4 => ?_) (fun c4 => ?_)
        · rw [if_pos c4] at ho
          refine us_iconstC hR dX11_needsFuel_38 (c := 1) (by decide) ?_
          refine us_goto hR dX11_needsFuel_39 43 (by decide) ?_
          refine us_iret hR dX11_needsFuel_43 rfl (nar01 (Or.inr rfl)) ?_
          subst ho
          exact h2 (Or.inr rfl) 
        · rw [if_neg c4] at ho
          refine us_iload_n hR dX11_needsFuel_20 rfl ?_
          refine us_bipushC hR dX11_needsFuel_21 (c := 7) (by decide) ?_
          refine us_icmp_eq hR dX11_needsFuel_23 38 (by decide) (fun c5 => ?_) (fun c5 => ?_)
          · rw [if_pos c5] at ho
            refine us_iconstC hR dX11_needsFuel_38 (c := 1) (by decide) ?_
            refine us_goto hR dX11_needsFuel_39 43 (by decide) ?_
            refine us_iret hR dX11_needsFuel_43 rfl (nar01 (Or.inr rfl)) ?_
            subst ho
            exact h2 (Or.inr rfl) 
          · rw [if_neg c5] at ho
            refine us_iload_n hR dX11_needsFuel_26 rfl ?_
            refine us_bipushC hR dX11_needsFuel_27 (c := 9) (by decide) ?_
            refine us_icmp_eq hR dX11_needsFuel_29 38 (by decide) (fun c6 => ?_) (fun c6 => ?_)
            · rw [if_pos c6] at ho
              refine us_iconstC hR dX11_needsFuel_38 (c := 1) (by decide) ?_
              refine us_goto hR dX11_needsFuel_39 43 (by decide) ?_
              refine us_iret hR dX11_needsFuel_43 rfl (nar01 (Or.inr rfl)) ?_
              subst ho
              exact h2 (Or.inr rfl) 
            · rw [if_neg c6] at ho
              refine us_iload_n hR dX11_needsFuel_32 rfl ?_
              refine us_bipushC hR dX11_needsFuel_33 (c := 10) (by decide) ?_
              refine us_icmp_ne hR dX11_needsFuel_35 42 (by decide) (fun c7 => ?_) (fun c7 => ?_)
              · rw [if_neg c7] at ho
                refine us_iconstC hR dX11_needsFuel_42 (c := 0) (by decide) ?_
                refine us_iret hR dX11_needsFuel_43 rfl (nar01 (Or.inl rfl)) ?_
                subst ho
                exact h2 (Or.inl rfl) 
              · rw [if_pos c7] at ho
                refine us_iconstC hR dX11_needsFuel_38 (c := 1) (by decide) ?_
                refine us_goto hR dX11_needsFuel_39 43 (by decide) ?_
                refine us_iret hR dX11_needsFuel_43 rfl (nar01 (Or.inr rfl)) ?_
                subst ho
                exact h2 (Or.inr rfl) 
def f_12070_L81  : Nat → Int32 → Int32 → Int32 → Int32 → Mx → Option Mx
  | 0, _, _, _, _, _ => none
  | n + 1, l1, l2, l3, l4, s =>
    if (mf s 50) = 0 then
      gd (vi l4 1200) <|
      if (mg s 4 l4) = 17 then
        some s
      else
        gd (vi l4 1200) <|
        if (f_12069 (mg s 4 l4) s) = 0 then
          bO (f_12067 l4 s) fun s8 r8 =>
          f_12070_L81 n l1 l2 l3 r8 s8
        else
          bT (f_12056 s) fun s5 r5 =>
          if r5 = 0 then
            f_12070_L81 n l1 l2 l3 l4 s5
          else
            bO (f_12068 l4 l2 l3 s5) fun s7 r7 =>
            f_12070_L81 n l1 l2 l3 r7 s7
    else
      some s
def f_12070_L57  : Nat → Int32 → Int32 → Int32 → Int32 → Mx → Option Mx
  | 0, _, _, _, _, _ => none
  | n + 1, l1, l2, l3, l4, s =>
    if 8 ≤ l4 then
      f_12070_L81 1000000000 l1 l2 l3 0 s
    else
      gd (vi l4 88) <|
      bS (ms s 31 l4 0) fun s10 =>
      f_12070_L57 n l1 l2 l3 (l4 + 1) s10
def f_12070_L33  : Nat → Int32 → Int32 → Int32 → Int32 → Mx → Option Mx
  | 0, _, _, _, _, _ => none
  | n + 1, l1, l2, l3, l4, s =>
    if 32 ≤ l4 then
      f_12070_L57 1000000000 l1 l2 l3 0 s
    else
      gd (vi l4 32) <|
      bS (ms s 34 l4 0) fun s12 =>
      f_12070_L33 n l1 l2 l3 (l4 + 1) s12
def f_12070 (x0 : Int32) (x1 : Int32) (x2 : Int32) (s : Mx) : Option Mx :=
  bS (mp s 49 x0) fun s13 =>
  bS (mp s13 50 0) fun s14 =>
  bS (mp s14 51 0) fun s15 =>
  bS (mp s15 52 0) fun s16 =>
  bS (mp s16 53 0) fun s17 =>
  bS (mp s17 57 0) fun s18 =>
  f_12070_L33 1000000000 x0 x1 x2 0 s18
theorem sp_12070 {d : Nat} {G : ab_G} {ad : Nat → Nat} {I : Nat → Nat → Int32} {s : Mx} {P : ab_Pq} {X : ab_Xq} (hE : EM G ad) (hP : RepM I ad s) {x0 : Int32} {x1 : Int32} {x2 : Int32}  {o : Mx} (ho : f_12070 x0 x1 x2 s = some o) (h : ∀ I1, RepM I1 ad o → FrM ad I I1 → P (gW G I1) none) : ab_Gam (d + 6) 12070 [.ref (ad 0), .int x0, .int x1, .int x2] (gW G I) P X := by
  have h2 := h
  have hF : FrM ad I I := FrM_rfl
  unfold f_12070 at ho
  refine ab_enter (I := i12070) rfl (Nat.le_of_ble_eq_true rfl) (fun R hR => ?_)
  have h12070_L81 : ∀ (n : Nat) (l1 : Int32) (l2 : Int32) (l3 : Int32) (l4 : Int32)  (s : Mx) (Ia : Nat → Nat → Int32) (bc bs : Nat) (hPa : RepM Ia ad s) (hFa : FrM ad I Ia) (ho : f_12070_L81 n l1 l2 l3 l4 s = some o), R 81 [some (.ref (ad 0)), some (.int l1), some (.int l2), some (.int l3), some (.int l4)] [] (gW G Ia) bc bs := by
    intro n
    induction n with
    | zero => intro l1 l2 l3 l4  s Ia bc bs  hPa hFa ho; exact absurd ho (by intro hc; cases hc)
    | succ n81 ih81 =>
      intro l1 l2 l3 l4  s Ia bc bs  hPa hFa ho
      rw [f_12070_L81] at ho
      refine us_aload_n hR dX11_runs_81 rfl ?_
      refine us_getIx hR dX11_runs_82 fR_12_413 hE.2.1 rfl (RepM_f hPa 50) ?_
      refine us_if_ne hR dX11_runs_85 144 (by decide) (fun c1 => ?_) (fun c1 => ?_)
      · rw [if_neg c1] at ho
        refine us_vret hR dX11_runs_144 rfl ?_
        cases ho
        exact h2 _ hPa hFa
      · rw [if_pos c1] at ho
        refine us_aload_n hR dX11_runs_88 rfl ?_
        refine us_getR hR dX11_runs_89 fR_12_19 hE.2.1 rfl (em_r_12 hE) ?_
        refine us_iload hR dX11_runs_92 rfl ?_
        have hg := gd_c ho
        rw [gd_e hg] at ho
        refine us_ialoadM hE hPa (em_q_12 hE) hR dX11_runs_94 hg ?_
        refine us_bipushC hR dX11_runs_95 (c := 17) (by decide) ?_
        refine us_icmp_eq hR dX11_runs_97 144 (by decide) (fun c2 => ?_) (fun c2 => ?_)
        · rw [if_pos c2] at ho
          refine us_vret hR dX11_runs_144 rfl ?_
          cases ho
          exact h2 _ hPa hFa
        · rw [if_neg c2] at ho
          refine us_aload_n hR dX11_runs_100 rfl ?_
          refine us_getR hR dX11_runs_101 fR_12_19 hE.2.1 rfl (em_r_12 hE) ?_
          refine us_iload hR dX11_runs_104 rfl ?_
          have hg := gd_c ho
          rw [gd_e hg] at ho
          refine us_ialoadM hE hPa (em_q_12 hE) hR dX11_runs_106 hg ?_
          refine us_callS hR dX11_runs_107 (y := 12069) (by decide +kernel) (by decide) (J := i12069) rfl rfl rfl rfl (rest := _) (Nat.le_of_ble_eq_true rfl) (Nat.zero_le _) (Nat.zero_le _) ?_
          refine sp_12069 hE hPa  (fun hb3 => ?_)
          refine us_if_ne hR dX11_runs_110 124 (by decide) (fun c4 => ?_) (fun c4 => ?_)
          · rw [if_neg c4] at ho
            refine us_aload_n hR dX11_runs_124 rfl ?_
            refine us_callV hR dX11_runs_125 (y := 12056) (by decide +kernel) (by decide) (J := i12056) rfl rfl rfl rfl hE.2.1 rfl (Nat.le_of_ble_eq_true rfl) (Nat.zero_le _) (Nat.zero_le _) ?_
            refine sp_12056 hE hPa  (fun I5 q5 hs5 hb5 hP5 hF5 => ?_)
            rw [← hs5] at ho
            obtain ⟨s5, r5⟩ := q5
            rw [bT_eq] at ho
            have hF5 := hFa.tr hF5
            refine us_if_eq hR dX11_runs_128 81 (by decide) (fun c6 => ?_) (fun c6 => ?_)
            · rw [if_pos c6] at ho
              exact ih81 l1 l2 l3 l4  s5 I5 _ _ hP5 hF5 ho
            · rw [if_neg c6] at ho
              refine us_aload_n hR dX11_runs_131 rfl ?_
              refine us_iload hR dX11_runs_132 rfl ?_
              refine us_iload_n hR dX11_runs_134 rfl ?_
              refine us_iload_n hR dX11_runs_135 rfl ?_
              refine us_callV hR dX11_runs_136 (y := 12068) (by decide +kernel) (by decide) (J := i12068) rfl rfl rfl rfl hE.2.1 rfl (Nat.le_of_ble_eq_true rfl) (Nat.zero_le _) (Nat.zero_le _) ?_
              obtain ⟨q7, hs7⟩ := bO_ex ho
              obtain ⟨s7, r7⟩ := q7
              replace ho := bO_go ho hs7
              refine sp_12068 hE hP5  hs7 (fun I7 hP7 hF7 => ?_)
              have hF7 := hF5.tr hF7
              refine us_istore hR dX11_runs_139 (Nat.le_of_ble_eq_true rfl) ?_
              refine us_goto hR dX11_runs_141 81 (by decide) ?_
              exact ih81 l1 l2 l3 r7  s7 I7 _ _ hP7 hF7 ho
          · rw [if_pos c4] at ho
            refine us_aload_n hR dX11_runs_113 rfl ?_
            refine us_iload hR dX11_runs_114 rfl ?_
            refine us_callV hR dX11_runs_116 (y := 12067) (by decide +kernel) (by decide) (J := i12067) rfl rfl rfl rfl hE.2.1 rfl (Nat.le_of_ble_eq_true rfl) (Nat.zero_le _) (Nat.zero_le _) ?_
            obtain ⟨q8, hs8⟩ := bO_ex ho
            obtain ⟨s8, r8⟩ := q8
            replace ho := bO_go ho hs8
            refine sp_12067 hE hPa  hs8 (fun I8 hP8 hF8 => ?_)
            have hF8 := hFa.tr hF8
            refine us_istore hR dX11_runs_119 (Nat.le_of_ble_eq_true rfl) ?_
            refine us_goto hR dX11_runs_121 81 (by decide) ?_
            exact ih81 l1 l2 l3 r8  s8 I8 _ _ hP8 hF8 ho
  have h12070_L57 : ∀ (n : Nat) (l1 : Int32) (l2 : Int32) (l3 : Int32) (l4 : Int32)  (s : Mx) (Ia : Nat → Nat → Int32) (bc bs : Nat) (hPa : RepM Ia ad s) (hFa : FrM ad I Ia) (ho : f_12070_L57 n l1 l2 l3 l4 s = some o), R 57 [some (.ref (ad 0)), some (.int l1), some (.int l2), some (.int l3), some (.int l4)] [] (gW G Ia) bc bs := by
    intro n
    induction n with
    | zero => intro l1 l2 l3 l4  s Ia bc bs  hPa hFa ho; exact absurd ho (by intro hc; cases hc)
    | succ n57 ih57 =>
      intro l1 l2 l3 l4  s Ia bc bs  hPa hFa ho
      rw [f_12070_L57] at ho
      refine us_iload hR dX11_runs_57 rfl ?_
      refine us_bipushC hR dX11_runs_59 (c := 8) (by decide) ?_
      refine us_icmp_ge hR dX11_runs_61 78 (by decide) (fun c9 => ?_) (fun c9 => ?_)
      · rw [if_pos c9] at ho
        refine us_iconstC hR dX11_runs_78 (c := 0) (by decide) ?_
        refine us_istore hR dX11_runs_79 (Nat.le_of_ble_eq_true rfl) ?_
        exact h12070_L81 _ l1 l2 l3 0  s Ia _ _ hPa hFa ho
      · rw [if_neg c9] at ho
        refine us_aload_n hR dX11_runs_64 rfl ?_
        refine us_getR hR dX11_runs_65 fR_12_102 hE.2.1 rfl (em_r_55 hE) ?_
        refine us_iload hR dX11_runs_68 rfl ?_
        refine us_iconstC hR dX11_runs_70 (c := 0) (by decide) ?_
        have hg := gd_c ho
        rw [gd_e hg] at ho
        refine us_iastoreM hE hPa (em_q_55 hE) hR dX11_runs_71 hg (fun I10 s10 hs10 hP10 hF10 => ?_)
        rw [← hs10, bS_eq] at ho
        have hF10 := hFa.tr hF10
        refine us_iincC hR dX11_runs_72 rfl (Nat.le_of_ble_eq_true rfl) (c := 1) (by decide) ?_
        refine us_goto hR dX11_runs_75 57 (by decide) ?_
        exact ih57 l1 l2 l3 (l4 + 1)  s10 I10 _ _ hP10 hF10 ho
  have h12070_L33 : ∀ (n : Nat) (l1 : Int32) (l2 : Int32) (l3 : Int32) (l4 : Int32)  (s : Mx) (Ia : Nat → Nat → Int32) (bc bs : Nat) (hPa : RepM Ia ad s) (hFa : FrM ad I Ia) (ho : f_12070_L33 n l1 l2 l3 l4 s = some o), R 33 [some (.ref (ad 0)), some (.int l1), some (.int l2), some (.int l3), some (.int l4)] [] (gW G Ia) bc bs := by
    intro n
    induction n with
    | zero => intro l1 l2 l3 l4  s Ia bc bs  hPa hFa ho; exact absurd ho (by intro hc; cases hc)
    | succ n33 ih33 =>
      intro l1 l2 l3 l4  s Ia bc bs  hPa hFa ho
      rw [f_12070_L33] at ho
      refine us_iload hR dX11_runs_33 rfl ?_
      refine us_bipushC hR dX11_runs_35 (c := 32) (by decide) ?_
      refine us_icmp_ge hR dX11_runs_37 54 (by decide) (fun c11 => ?_) (fun c11 => ?_)
      · rw [if_pos c11] at ho
        refine us_iconstC hR dX11_runs_54 (c := 0) (by decide) ?_
        refine us_istore hR dX11_runs_55 (Nat.le_of_ble_eq_true rfl) ?_
        exact h12070_L57 _ l1 l2 l3 0  s Ia _ _ hPa hFa ho
      · rw [if_neg c11] at ho
        refine us_aload_n hR dX11_runs_40 rfl ?_
        refine us_getR hR dX11_runs_41 fR_12_111 hE.2.1 rfl (em_r_59 hE) ?_
        refine us_iload hR dX11_runs_44 rfl ?_
        refine us_iconstC hR dX11_runs_46 (c := 0) (by decide) ?_
        have hg := gd_c ho
        rw [gd_e hg] at ho
        refine us_iastoreM hE hPa (em_q_59 hE) hR dX11_runs_47 hg (fun I12 s12 hs12 hP12 hF12 => ?_)
        rw [← hs12, bS_eq] at ho
        have hF12 := hFa.tr hF12
        refine us_iincC hR dX11_runs_48 rfl (Nat.le_of_ble_eq_true rfl) (c := 1) (by decide) ?_
        refine us_goto hR dX11_runs_51 33 (by decide) ?_
        exact ih33 l1 l2 l3 (l4 + 1)  s12 I12 _ _ hP12 hF12 ho
  refine us_aload_n hR dX11_runs_0 rfl ?_
  refine us_iload_n hR dX11_runs_1 rfl ?_
  refine us_putIM hE hP 49 hR dX11_runs_2 fR_12_410 (Or.inl rfl) rfl rfl (fun I13 s13 hs13 hP13 hF13 => ?_)
  rw [← hs13, bS_eq] at ho
  have hF13 := hF.tr hF13
  refine us_aload_n hR dX11_runs_5 rfl ?_
  refine us_iconstC hR dX11_runs_6 (c := 0) (by decide) ?_
  refine us_putIM hE hP13 50 hR dX11_runs_7 fR_12_413 (Or.inl rfl) rfl rfl (fun I14 s14 hs14 hP14 hF14 => ?_)
  rw [← hs14, bS_eq] at ho
  have hF14 := hF13.tr hF14
  refine us_aload_n hR dX11_runs_10 rfl ?_
  refine us_iconstC hR dX11_runs_11 (c := 0) (by decide) ?_
  refine us_putIM hE hP14 51 hR dX11_runs_12 fR_12_458 (Or.inl rfl) rfl rfl (fun I15 s15 hs15 hP15 hF15 => ?_)
  rw [← hs15, bS_eq] at ho
  have hF15 := hF14.tr hF15
  refine us_aload_n hR dX11_runs_15 rfl ?_
  refine us_iconstC hR dX11_runs_16 (c := 0) (by decide) ?_
  refine us_putIM hE hP15 52 hR dX11_runs_17 fR_12_443 (Or.inl rfl) rfl rfl (fun I16 s16 hs16 hP16 hF16 => ?_)
  rw [← hs16, bS_eq] at ho
  have hF16 := hF15.tr hF16
  refine us_aload_n hR dX11_runs_20 rfl ?_
  refine us_iconstC hR dX11_runs_21 (c := 0) (by decide) ?_
  refine us_putIM hE hP16 53 hR dX11_runs_22 fR_12_416 (Or.inl rfl) rfl rfl (fun I17 s17 hs17 hP17 hF17 => ?_)
  rw [← hs17, bS_eq] at ho
  have hF17 := hF16.tr hF17
  refine us_aload_n hR dX11_runs_25 rfl ?_
  refine us_iconstC hR dX11_runs_26 (c := 0) (by decide) ?_
  refine us_putIM hE hP17 57 hR dX11_runs_27 fR_12_440 (Or.inl rfl) rfl rfl (fun I18 s18 hs18 hP18 hF18 => ?_)
  rw [← hs18, bS_eq] at ho
  have hF18 := hF17.tr hF18
  refine us_iconstC hR dX11_runs_30 (c := 0) (by decide) ?_
  refine us_istore hR dX11_runs_31 (Nat.le_of_ble_eq_true rfl) ?_
  exact h12070_L33 _ x0 x1 x2 0  s18 I18 _ _ hP18 hF18 ho
def f_12071_L10  : Nat → Int32 → Mx → Option Mx
  | 0, _, _ => none
  | n + 1, l1, s =>
    if (mf s 0) ≤ l1 then
      bOv (f_12055 s) fun s2 =>
      some s2
    else
      gd (vi l1 300) <|
      gd (vi l1 300) <|
      bS (ms s 3 l1 (vp_nar .char (mg s 1 l1))) fun s3 =>
      f_12071_L10 n (l1 + 1) s3
def f_12071  (s : Mx) : Option Mx :=
  bS (mp s 4 (mf s 0)) fun s4 =>
  f_12071_L10 1000 0 s4
theorem sp_12071 {d : Nat} {G : ab_G} {ad : Nat → Nat} {I : Nat → Nat → Int32} {s : Mx} {P : ab_Pq} {X : ab_Xq} (hE : EM G ad) (hP : RepM I ad s)   {o : Mx} (ho : f_12071 s = some o) (h : ∀ I1, RepM I1 ad o → FrM ad I I1 → P (gW G I1) none) : ab_Gam (d + 9) 12071 [.ref (ad 0)] (gW G I) P X := by
  have h2 := h
  have hF : FrM ad I I := FrM_rfl
  unfold f_12071 at ho
  refine ab_enter (I := i12071) rfl (Nat.le_of_ble_eq_true rfl) (fun R hR => ?_)
  have h12071_L10 : ∀ (n : Nat) (l1 : Int32)  (s : Mx) (Ia : Nat → Nat → Int32) (bc bs : Nat) (hPa : RepM Ia ad s) (hFa : FrM ad I Ia) (ho : f_12071_L10 n l1 s = some o), R 10 [some (.ref (ad 0)), some (.int l1)] [] (gW G Ia) bc bs := by
    intro n
    induction n with
    | zero => intro l1  s Ia bc bs  hPa hFa ho; exact absurd ho (by intro hc; cases hc)
    | succ n10 ih10 =>
      intro l1  s Ia bc bs  hPa hFa ho
      rw [f_12071_L10] at ho
      refine us_iload_n hR dX11_loadsDraft_10 rfl ?_
      refine us_aload_n hR dX11_loadsDraft_11 rfl ?_
      refine us_getIx hR dX11_loadsDraft_12 fR_12_189 hE.2.1 rfl (RepM_f hPa 0) ?_
      refine us_icmp_ge hR dX11_loadsDraft_15 36 (by decide) (fun c1 => ?_) (fun c1 => ?_)
      · rw [if_pos c1] at ho
        refine us_aload_n hR dX11_loadsDraft_36 rfl ?_
        refine us_callV hR dX11_loadsDraft_37 (y := 12055) (by decide +kernel) (by decide) (J := i12055) rfl rfl rfl rfl hE.2.1 rfl (Nat.le_of_ble_eq_true rfl) (Nat.zero_le _) (Nat.zero_le _) ?_
        obtain ⟨s2, hs2⟩ := bOv_ex ho
        replace ho := bOv_go ho hs2
        refine sp_12055 hE hPa  hs2 (fun I2 hP2 hF2 => ?_)
        have hF2 := hFa.tr hF2
        refine us_vret hR dX11_loadsDraft_40 rfl ?_
        cases ho
        exact h2 _ hP2 hF2
      · rw [if_neg c1] at ho
        refine us_aload_n hR dX11_loadsDraft_18 rfl ?_
        refine us_getR hR dX11_loadsDraft_19 fR_12_16 hE.2.1 rfl (em_r_3 hE) ?_
        refine us_iload_n hR dX11_loadsDraft_22 rfl ?_
        refine us_aload_n hR dX11_loadsDraft_23 rfl ?_
        refine us_getR hR dX11_loadsDraft_24 fR_12_7 hE.2.1 rfl (em_r_1 hE) ?_
        refine us_iload_n hR dX11_loadsDraft_27 rfl ?_
        have hg := gd_c ho
        rw [gd_e hg] at ho
        refine us_caloadM hE hPa (em_q_1 hE) hR dX11_loadsDraft_28 hg ?_
        have hg := gd_c ho
        rw [gd_e hg] at ho
        refine us_castoreM hE hPa (em_q_3 hE) hR dX11_loadsDraft_29 hg (fun I3 s3 hs3 hP3 hF3 => ?_)
        rw [← hs3, bS_eq] at ho
        have hF3 := hFa.tr hF3
        refine us_iincC hR dX11_loadsDraft_30 rfl (Nat.le_of_ble_eq_true rfl) (c := 1) (by decide) ?_
        refine us_goto hR dX11_loadsDraft_33 10 (by decide) ?_
        exact ih10 (l1 + 1)  s3 I3 _ _ hP3 hF3 ho
  refine us_aload_n hR dX11_loadsDraft_0 rfl ?_
  refine us_aload_n hR dX11_loadsDraft_1 rfl ?_
  refine us_getIx hR dX11_loadsDraft_2 fR_12_189 hE.2.1 rfl (RepM_f hP 0) ?_
  refine us_putIM hE hP 4 hR dX11_loadsDraft_5 fR_12_196 (Or.inl rfl) rfl rfl (fun I4 s4 hs4 hP4 hF4 => ?_)
  rw [← hs4, bS_eq] at ho
  have hF4 := hF.tr hF4
  refine us_iconstC hR dX11_loadsDraft_8 (c := 0) (by decide) ?_
  refine us_istore_n hR dX11_loadsDraft_9 (Nat.le_of_ble_eq_true rfl) ?_
  exact h12071_L10 _ 0  s4 I4 _ _ hP4 hF4 ho
def f_12072_L12  : Nat → Int32 → Int32 → Mx → Option Mx
  | 0, _, _, _ => none
  | n + 1, l1, l2, s =>
    if (mf s 4) ≤ l2 then
      bOv (f_12055 s) fun s2 =>
      some s2
    else
      gd (vi ((300 * l1) + l2) 9000) <|
      gd (vi l2 300) <|
      bS (ms s 3 l2 (vp_nar .char (mg s 2 ((300 * l1) + l2)))) fun s3 =>
      f_12072_L12 n l1 (l2 + 1) s3
def f_12072 (x0 : Int32) (s : Mx) : Option Mx :=
  gd (vi x0 30) <|
  bS (mp s 4 (mg s 45 x0)) fun s4 =>
  f_12072_L12 1000 x0 0 s4
theorem sp_12072 {d : Nat} {G : ab_G} {ad : Nat → Nat} {I : Nat → Nat → Int32} {s : Mx} {P : ab_Pq} {X : ab_Xq} (hE : EM G ad) (hP : RepM I ad s) {x0 : Int32}  {o : Mx} (ho : f_12072 x0 s = some o) (h : ∀ I1, RepM I1 ad o → FrM ad I I1 → P (gW G I1) none) : ab_Gam (d + 9) 12072 [.ref (ad 0), .int x0] (gW G I) P X := by
  have h2 := h
  have hF : FrM ad I I := FrM_rfl
  unfold f_12072 at ho
  refine ab_enter (I := i12072) rfl (Nat.le_of_ble_eq_true rfl) (fun R hR => ?_)
  have h12072_L12 : ∀ (n : Nat) (l1 : Int32) (l2 : Int32)  (s : Mx) (Ia : Nat → Nat → Int32) (bc bs : Nat) (hPa : RepM Ia ad s) (hFa : FrM ad I Ia) (ho : f_12072_L12 n l1 l2 s = some o), R 12 [some (.ref (ad 0)), some (.int l1), some (.int l2)] [] (gW G Ia) bc bs := by
    intro n
    induction n with
    | zero => intro l1 l2  s Ia bc bs  hPa hFa ho; exact absurd ho (by intro hc; cases hc)
    | succ n12 ih12 =>
      intro l1 l2  s Ia bc bs  hPa hFa ho
      rw [f_12072_L12] at ho
      refine us_iload_n hR dX11_loadsAnswer_12 rfl ?_
      refine us_aload_n hR dX11_loadsAnswer_13 rfl ?_
      refine us_getIx hR dX11_loadsAnswer_14 fR_12_196 hE.2.1 rfl (RepM_f hPa 4) ?_
      refine us_icmp_ge hR dX11_loadsAnswer_17 44 (by decide) (fun c1 => ?_) (fun c1 => ?_)
      · rw [if_pos c1] at ho
        refine us_aload_n hR dX11_loadsAnswer_44 rfl ?_
        refine us_callV hR dX11_loadsAnswer_45 (y := 12055) (by decide +kernel) (by decide) (J := i12055) rfl rfl rfl rfl hE.2.1 rfl (Nat.le_of_ble_eq_true rfl) (Nat.zero_le _) (Nat.zero_le _) ?_
        obtain ⟨s2, hs2⟩ := bOv_ex ho
        replace ho := bOv_go ho hs2
        refine sp_12055 hE hPa  hs2 (fun I2 hP2 hF2 => ?_)
        have hF2 := hFa.tr hF2
        refine us_vret hR dX11_loadsAnswer_48 rfl ?_
        cases ho
        exact h2 _ hP2 hF2
      · rw [if_neg c1] at ho
        refine us_aload_n hR dX11_loadsAnswer_20 rfl ?_
        refine us_getR hR dX11_loadsAnswer_21 fR_12_16 hE.2.1 rfl (em_r_3 hE) ?_
        refine us_iload_n hR dX11_loadsAnswer_24 rfl ?_
        refine us_aload_n hR dX11_loadsAnswer_25 rfl ?_
        refine us_getR hR dX11_loadsAnswer_26 fR_12_13 hE.2.1 rfl (em_r_2 hE) ?_
        refine us_sipushC hR dX11_loadsAnswer_29 (c := 300) (by decide) ?_
        refine us_iload_n hR dX11_loadsAnswer_32 rfl ?_
        refine us_imul hR dX11_loadsAnswer_33 ?_
        refine us_iload_n hR dX11_loadsAnswer_34 rfl ?_
        refine us_iadd hR dX11_loadsAnswer_35 ?_
        have hg := gd_c ho
        rw [gd_e hg] at ho
        refine us_caloadM hE hPa (em_q_2 hE) hR dX11_loadsAnswer_36 hg ?_
        have hg := gd_c ho
        rw [gd_e hg] at ho
        refine us_castoreM hE hPa (em_q_3 hE) hR dX11_loadsAnswer_37 hg (fun I3 s3 hs3 hP3 hF3 => ?_)
        rw [← hs3, bS_eq] at ho
        have hF3 := hFa.tr hF3
        refine us_iincC hR dX11_loadsAnswer_38 rfl (Nat.le_of_ble_eq_true rfl) (c := 1) (by decide) ?_
        refine us_goto hR dX11_loadsAnswer_41 12 (by decide) ?_
        exact ih12 l1 (l2 + 1)  s3 I3 _ _ hP3 hF3 ho
  refine us_aload_n hR dX11_loadsAnswer_0 rfl ?_
  refine us_aload_n hR dX11_loadsAnswer_1 rfl ?_
  refine us_getR hR dX11_loadsAnswer_2 fR_12_144 hE.2.1 rfl (em_r_75 hE) ?_
  refine us_iload_n hR dX11_loadsAnswer_5 rfl ?_
  have hg := gd_c ho
  rw [gd_e hg] at ho
  refine us_ialoadM hE hP (em_q_75 hE) hR dX11_loadsAnswer_6 hg ?_
  refine us_putIM hE hP 4 hR dX11_loadsAnswer_7 fR_12_196 (Or.inl rfl) rfl rfl (fun I4 s4 hs4 hP4 hF4 => ?_)
  rw [← hs4, bS_eq] at ho
  have hF4 := hF.tr hF4
  refine us_iconstC hR dX11_loadsAnswer_10 (c := 0) (by decide) ?_
  refine us_istore_n hR dX11_loadsAnswer_11 (Nat.le_of_ble_eq_true rfl) ?_
  exact h12072_L12 _ x0 0  s4 I4 _ _ hP4 hF4 ho
