/-! shadows: the reference -/
def f_12073  (s : Mx) : Option (Mx × Int32) :=
  bOv (f_12071 s) fun s1 =>
  bT (f_12004 (mf s1 9) s1) fun s2 r2 =>
  some (s2, r2)
theorem sp_12073 {d : Nat} {G : ab_G} {ad : Nat → Nat} {I : Nat → Nat → Int32} {s : Mx} {P : ab_Pq} {X : ab_Xq} (hE : EM G ad) (hP : RepM I ad s)   {o : Mx × Int32} (ho : f_12073 s = some o) (h : ∀ I1, RepM I1 ad o.1 → FrM ad I I1 → P (gW G I1) (some (.int o.2))) : ab_Gam (d + 10) 12073 [.ref (ad 0)] (gW G I) P X := by
  have h2 := h
  have hF : FrM ad I I := FrM_rfl
  unfold f_12073 at ho
  refine ab_enter (I := i12073) rfl (Nat.le_of_ble_eq_true rfl) (fun R hR => ?_)
  refine us_aload_n hR dX11_fault_0 rfl ?_
  refine us_callV hR dX11_fault_1 (y := 12071) (by decide +kernel) (by decide) (J := i12071) rfl rfl rfl rfl hE.2.1 rfl (Nat.le_of_ble_eq_true rfl) (Nat.zero_le _) (Nat.zero_le _) ?_
  obtain ⟨s1, hs1⟩ := bOv_ex ho
  replace ho := bOv_go ho hs1
  refine sp_12071 hE hP  hs1 (fun I1 hP1 hF1 => ?_)
  have hF1 := hF.tr hF1
  refine us_aload_n hR dX11_fault_4 rfl ?_
  refine us_aload_n hR dX11_fault_5 rfl ?_
  refine us_getIx hR dX11_fault_6 fR_12_254 hE.2.1 rfl (RepM_f hP1 9) ?_
  refine us_callV hR dX11_fault_9 (y := 12004) (by decide +kernel) (by decide) (J := i12004) rfl rfl rfl rfl hE.2.1 rfl (Nat.le_of_ble_eq_true rfl) (Nat.zero_le _) (Nat.zero_le _) ?_
  refine sp_12004 hE hP1  (fun I2 q2 hs2 hP2 hF2 => ?_)
  rw [← hs2] at ho
  obtain ⟨s2, r2⟩ := q2
  rw [bT_eq] at ho
  have hF2 := hF1.tr hF2
  refine us_iret hR dX11_fault_12 rfl rfl ?_
  cases ho
  exact h2 _ hP2 hF2
def f_12074  (s : Mx) : Option (Mx × Int32) :=
  bOv (f_12071 s) fun s1 =>
  bT (f_12004 (mf s1 10) s1) fun s2 r2 =>
  some (s2, r2)
theorem sp_12074 {d : Nat} {G : ab_G} {ad : Nat → Nat} {I : Nat → Nat → Int32} {s : Mx} {P : ab_Pq} {X : ab_Xq} (hE : EM G ad) (hP : RepM I ad s)   {o : Mx × Int32} (ho : f_12074 s = some o) (h : ∀ I1, RepM I1 ad o.1 → FrM ad I I1 → P (gW G I1) (some (.int o.2))) : ab_Gam (d + 10) 12074 [.ref (ad 0)] (gW G I) P X := by
  have h2 := h
  have hF : FrM ad I I := FrM_rfl
  unfold f_12074 at ho
  refine ab_enter (I := i12074) rfl (Nat.le_of_ble_eq_true rfl) (fun R hR => ?_)
  refine us_aload_n hR dX11_faultPlace_0 rfl ?_
  refine us_callV hR dX11_faultPlace_1 (y := 12071) (by decide +kernel) (by decide) (J := i12071) rfl rfl rfl rfl hE.2.1 rfl (Nat.le_of_ble_eq_true rfl) (Nat.zero_le _) (Nat.zero_le _) ?_
  obtain ⟨s1, hs1⟩ := bOv_ex ho
  replace ho := bOv_go ho hs1
  refine sp_12071 hE hP  hs1 (fun I1 hP1 hF1 => ?_)
  have hF1 := hF.tr hF1
  refine us_aload_n hR dX11_faultPlace_4 rfl ?_
  refine us_aload_n hR dX11_faultPlace_5 rfl ?_
  refine us_getIx hR dX11_faultPlace_6 fR_12_257 hE.2.1 rfl (RepM_f hP1 10) ?_
  refine us_callV hR dX11_faultPlace_9 (y := 12004) (by decide +kernel) (by decide) (J := i12004) rfl rfl rfl rfl hE.2.1 rfl (Nat.le_of_ble_eq_true rfl) (Nat.zero_le _) (Nat.zero_le _) ?_
  refine sp_12004 hE hP1  (fun I2 q2 hs2 hP2 hF2 => ?_)
  rw [← hs2] at ho
  obtain ⟨s2, r2⟩ := q2
  rw [bT_eq] at ho
  have hF2 := hF1.tr hF2
  refine us_iret hR dX11_faultPlace_12 rfl rfl ?_
  cases ho
  exact h2 _ hP2 hF2
def f_12075_J17  (k0 : Int32) (s : Mx) : Option (Mx × Int32) :=
  bT (f_12003 k0 1 1 s) fun s1 r1 =>
  if r1 = 0 then
    some (s1, 0)
  else
    some (s1, (mf s1 16))
def f_12075  (s : Mx) : Option (Mx × Int32) :=
  bOv (f_12071 s) fun s3 =>
  if (mf s3 9) = 0 then
    f_12075_J17 1 s3
  else
    f_12075_J17 0 s3
theorem sp_12075 {d : Nat} {G : ab_G} {ad : Nat → Nat} {I : Nat → Nat → Int32} {s : Mx} {P : ab_Pq} {X : ab_Xq} (hE : EM G ad) (hP : RepM I ad s)   {o : Mx × Int32} (ho : f_12075 s = some o) (h : ∀ I1, RepM I1 ad o.1 → FrM ad I I1 → P (gW G I1) (some (.int o.2))) : ab_Gam (d + 10) 12075 [.ref (ad 0)] (gW G I) P X := by
  have h2 := h
  have hF : FrM ad I I := FrM_rfl
  unfold f_12075 at ho
  refine ab_enter (I := i12075) rfl (Nat.le_of_ble_eq_true rfl) (fun R hR => ?_)
  have h12075_J17 : ∀ (k0 : Int32)  (s : Mx) (Ia : Nat → Nat → Int32) (bc bs : Nat) (hPa : RepM Ia ad s) (hFa : FrM ad I Ia) (ho : f_12075_J17 k0 s = some o), R 17 [some (.ref (ad 0))] [.int k0, .ref (ad 0)] (gW G Ia) bc bs := by
    intro k0  s Ia bc bs  hPa hFa ho
    unfold f_12075_J17 at ho
    refine us_iconstC hR dX11_draftParts_17 (c := 1) (by decide) ?_
    refine us_iconstC hR dX11_draftParts_18 (c := 1) (by decide) ?_
    refine us_callV hR dX11_draftParts_19 (y := 12003) (by decide +kernel) (by decide) (J := i12003) rfl rfl rfl rfl hE.2.1 rfl (Nat.le_of_ble_eq_true rfl) (Nat.zero_le _) (Nat.zero_le _) ?_
    refine sp_12003 hE hPa  (fun I1 q1 hs1 hb1 hP1 hF1 => ?_)
    rw [← hs1] at ho
    obtain ⟨s1, r1⟩ := q1
    rw [bT_eq] at ho
    have hF1 := hFa.tr hF1
    refine us_if_eq hR dX11_draftParts_22 32 (by decide) (fun c2 => ?_) (fun c2 => ?_)
    · rw [if_pos c2] at ho
      refine us_iconstC hR dX11_draftParts_32 (c := 0) (by decide) ?_
      refine us_iret hR dX11_draftParts_33 rfl rfl ?_
      cases ho
      exact h2 _ hP1 hF1
    · rw [if_neg c2] at ho
      refine us_aload_n hR dX11_draftParts_25 rfl ?_
      refine us_getIx hR dX11_draftParts_26 fR_12_269 hE.2.1 rfl (RepM_f hP1 16) ?_
      refine us_goto hR dX11_draftParts_29 33 (by decide) ?_
      refine us_iret hR dX11_draftParts_33 rfl rfl ?_
      cases ho
      exact h2 _ hP1 hF1
  refine us_aload_n hR dX11_draftParts_0 rfl ?_
  refine us_callV hR dX11_draftParts_1 (y := 12071) (by decide +kernel) (by decide) (J := i12071) rfl rfl rfl rfl hE.2.1 rfl (Nat.le_of_ble_eq_true rfl) (Nat.zero_le _) (Nat.zero_le _) ?_
  obtain ⟨s3, hs3⟩ := bOv_ex ho
  replace ho := bOv_go ho hs3
  refine sp_12071 hE hP  hs3 (fun I3 hP3 hF3 => ?_)
  have hF3 := hF.tr hF3
  refine us_aload_n hR dX11_draftParts_4 rfl ?_
  refine us_aload_n hR dX11_draftParts_5 rfl ?_
  refine us_getIx hR dX11_draftParts_6 fR_12_254 hE.2.1 rfl (RepM_f hP3 9) ?_
  refine us_if_ne hR dX11_draftParts_9 16 (by decide) (fun c4 => ?_) (fun c4 => ?_)
  · rw [if_neg c4] at ho
    refine us_iconstC hR dX11_draftParts_16 (c := 0) (by decide) ?_
    exact h12075_J17 0  s3 I3 _ _ hP3 hF3 ho
  · rw [if_pos c4] at ho
    refine us_iconstC hR dX11_draftParts_12 (c := 1) (by decide) ?_
    refine us_goto hR dX11_draftParts_13 17 (by decide) ?_
    exact h12075_J17 1  s3 I3 _ _ hP3 hF3 ho
def f_12076_L91  : Nat → Int32 → Int32 → Int32 → Int32 → Mx → Option (Mx × Int32)
  | 0, _, _, _, _, _ => none
  | n + 1, l1, l2, l3, l4, s =>
    if 32 ≤ l4 then
      some (s, (mf s 50))
    else
      gd (vi l4 32) <|
      gd (vi l4 32) <|
      bS (ms s 36 l4 (mg s 34 l4)) fun s2 =>
      f_12076_L91 n l1 l2 l3 (l4 + 1) s2
def f_12076_L61  : Nat → Int32 → Int32 → Int32 → Int32 → Mx → Option (Mx × Int32)
  | 0, _, _, _, _, _ => none
  | n + 1, l1, l2, l3, l4, s =>
    if 8 ≤ l4 then
      f_12076_L91 1000 l1 l2 l3 0 s
    else
      gd (vi l4 9) <|
      gd (vi l4 9) <|
      bS (ms s 35 l4 (mg s 33 l4)) fun s4 =>
      f_12076_L61 n l1 l2 l3 (l4 + 1) s4
def f_12076_J26  (l1 : Int32) (l2 : Int32) (l3 : Int32) (k0 : Int32) (k1 : Int32) (s : Mx) : Option (Mx × Int32) :=
  bT (f_12003 k1 k0 1 s) fun s5 r5 =>
  if r5 = 0 then
    some (s5, 0)
  else
    bOv (f_12070 l1 l2 l3 s5) fun s7 =>
    bS (mp s7 60 (mf s7 57)) fun s8 =>
    bS (mp s8 63 (mf s8 49)) fun s9 =>
    f_12076_L61 1000 l1 l2 l3 0 s9
def f_12076 (x0 : Int32) (x1 : Int32) (x2 : Int32) (s : Mx) : Option (Mx × Int32) :=
  bOv (f_12071 s) fun s10 =>
  if (mf s10 9) = 0 then
    f_12076_J26 x0 x1 x2 1 (f_12002 x0.toInt64 0 5000 s10) s10
  else
    f_12076_J26 x0 x1 x2 0 (f_12002 x0.toInt64 0 5000 s10) s10
theorem sp_12076 {d : Nat} {G : ab_G} {ad : Nat → Nat} {I : Nat → Nat → Int32} {s : Mx} {P : ab_Pq} {X : ab_Xq} (hE : EM G ad) (hP : RepM I ad s) {x0 : Int32} {x1 : Int32} {x2 : Int32}  {o : Mx × Int32} (ho : f_12076 x0 x1 x2 s = some o) (h : ∀ I1, RepM I1 ad o.1 → FrM ad I I1 → P (gW G I1) (some (.int o.2))) : ab_Gam (d + 10) 12076 [.ref (ad 0), .int x0, .int x1, .int x2] (gW G I) P X := by
  have h2 := h
  have hF : FrM ad I I := FrM_rfl
  unfold f_12076 at ho
  refine ab_enter (I := i12076) rfl (Nat.le_of_ble_eq_true rfl) (fun R hR => ?_)
  have h12076_L91 : ∀ (n : Nat) (l1 : Int32) (l2 : Int32) (l3 : Int32) (l4 : Int32)  (s : Mx) (Ia : Nat → Nat → Int32) (bc bs : Nat) (hPa : RepM Ia ad s) (hFa : FrM ad I Ia) (ho : f_12076_L91 n l1 l2 l3 l4 s = some o), R 91 [some (.ref (ad 0)), some (.int l1), some (.int l2), some (.int l3), some (.int l4)] [] (gW G Ia) bc bs := by
    intro n
    induction n with
    | zero => intro l1 l2 l3 l4  s Ia bc bs  hPa hFa ho; exact absurd ho (by intro hc; cases hc)
    | succ n91 ih91 =>
      intro l1 l2 l3 l4  s Ia bc bs  hPa hFa ho
      rw [f_12076_L91] at ho
      refine us_iload hR dX11_trial_91 rfl ?_
      refine us_bipushC hR dX11_trial_93 (c := 32) (by decide) ?_
      refine us_icmp_ge hR dX11_trial_95 118 (by decide) (fun c1 => ?_) (fun c1 => ?_)
      · rw [if_pos c1] at ho
        refine us_aload_n hR dX11_trial_118 rfl ?_
        refine us_getIx hR dX11_trial_119 fR_12_413 hE.2.1 rfl (RepM_f hPa 50) ?_
        refine us_iret hR dX11_trial_122 rfl rfl ?_
        cases ho
        exact h2 _ hPa hFa
      · rw [if_neg c1] at ho
        refine us_aload_n hR dX11_trial_98 rfl ?_
        refine us_getR hR dX11_trial_99 fR_12_117 hE.2.1 rfl (em_r_62 hE) ?_
        refine us_iload hR dX11_trial_102 rfl ?_
        refine us_aload_n hR dX11_trial_104 rfl ?_
        refine us_getR hR dX11_trial_105 fR_12_111 hE.2.1 rfl (em_r_59 hE) ?_
        refine us_iload hR dX11_trial_108 rfl ?_
        have hg := gd_c ho
        rw [gd_e hg] at ho
        refine us_ialoadM hE hPa (em_q_59 hE) hR dX11_trial_110 hg ?_
        have hg := gd_c ho
        rw [gd_e hg] at ho
        refine us_iastoreM hE hPa (em_q_62 hE) hR dX11_trial_111 hg (fun I2 s2 hs2 hP2 hF2 => ?_)
        rw [← hs2, bS_eq] at ho
        have hF2 := hFa.tr hF2
        refine us_iincC hR dX11_trial_112 rfl (Nat.le_of_ble_eq_true rfl) (c := 1) (by decide) ?_
        refine us_goto hR dX11_trial_115 91 (by decide) ?_
        exact ih91 l1 l2 l3 (l4 + 1)  s2 I2 _ _ hP2 hF2 ho
  have h12076_L61 : ∀ (n : Nat) (l1 : Int32) (l2 : Int32) (l3 : Int32) (l4 : Int32)  (s : Mx) (Ia : Nat → Nat → Int32) (bc bs : Nat) (hPa : RepM Ia ad s) (hFa : FrM ad I Ia) (ho : f_12076_L61 n l1 l2 l3 l4 s = some o), R 61 [some (.ref (ad 0)), some (.int l1), some (.int l2), some (.int l3), some (.int l4)] [] (gW G Ia) bc bs := by
    intro n
    induction n with
    | zero => intro l1 l2 l3 l4  s Ia bc bs  hPa hFa ho; exact absurd ho (by intro hc; cases hc)
    | succ n61 ih61 =>
      intro l1 l2 l3 l4  s Ia bc bs  hPa hFa ho
      rw [f_12076_L61] at ho
      refine us_iload hR dX11_trial_61 rfl ?_
      refine us_bipushC hR dX11_trial_63 (c := 8) (by decide) ?_
      refine us_icmp_ge hR dX11_trial_65 88 (by decide) (fun c3 => ?_) (fun c3 => ?_)
      · rw [if_pos c3] at ho
        refine us_iconstC hR dX11_trial_88 (c := 0) (by decide) ?_
        refine us_istore hR dX11_trial_89 (Nat.le_of_ble_eq_true rfl) ?_
        exact h12076_L91 _ l1 l2 l3 0  s Ia _ _ hPa hFa ho
      · rw [if_neg c3] at ho
        refine us_aload_n hR dX11_trial_68 rfl ?_
        refine us_getR hR dX11_trial_69 fR_12_114 hE.2.1 rfl (em_r_61 hE) ?_
        refine us_iload hR dX11_trial_72 rfl ?_
        refine us_aload_n hR dX11_trial_74 rfl ?_
        refine us_getR hR dX11_trial_75 fR_12_108 hE.2.1 rfl (em_r_58 hE) ?_
        refine us_iload hR dX11_trial_78 rfl ?_
        have hg := gd_c ho
        rw [gd_e hg] at ho
        refine us_ialoadM hE hPa (em_q_58 hE) hR dX11_trial_80 hg ?_
        have hg := gd_c ho
        rw [gd_e hg] at ho
        refine us_iastoreM hE hPa (em_q_61 hE) hR dX11_trial_81 hg (fun I4 s4 hs4 hP4 hF4 => ?_)
        rw [← hs4, bS_eq] at ho
        have hF4 := hFa.tr hF4
        refine us_iincC hR dX11_trial_82 rfl (Nat.le_of_ble_eq_true rfl) (c := 1) (by decide) ?_
        refine us_goto hR dX11_trial_85 61 (by decide) ?_
        exact ih61 l1 l2 l3 (l4 + 1)  s4 I4 _ _ hP4 hF4 ho
  have h12076_J26 : ∀ (l1 : Int32) (l2 : Int32) (l3 : Int32) (k0 : Int32) (k1 : Int32)  (s : Mx) (Ia : Nat → Nat → Int32) (bc bs : Nat) (hPa : RepM Ia ad s) (hFa : FrM ad I Ia) (ho : f_12076_J26 l1 l2 l3 k0 k1 s = some o), R 26 [some (.ref (ad 0)), some (.int l1), some (.int l2), some (.int l3), none] [.int k0, .int k1, .ref (ad 0)] (gW G Ia) bc bs := by
    intro l1 l2 l3 k0 k1  s Ia bc bs  hPa hFa ho
    unfold f_12076_J26 at ho
    refine us_iconstC hR dX11_trial_26 (c := 1) (by decide) ?_
    refine us_callV hR dX11_trial_27 (y := 12003) (by decide +kernel) (by decide) (J := i12003) rfl rfl rfl rfl hE.2.1 rfl (Nat.le_of_ble_eq_true rfl) (Nat.zero_le _) (Nat.zero_le _) ?_
    refine sp_12003 hE hPa  (fun I5 q5 hs5 hb5 hP5 hF5 => ?_)
    rw [← hs5] at ho
    obtain ⟨s5, r5⟩ := q5
    rw [bT_eq] at ho
    have hF5 := hFa.tr hF5
    refine us_if_ne hR dX11_trial_30 35 (by decide) (fun c6 => ?_) (fun c6 => ?_)
    · rw [if_neg c6] at ho
      refine us_aload_n hR dX11_trial_35 rfl ?_
      refine us_iload_n hR dX11_trial_36 rfl ?_
      refine us_iload_n hR dX11_trial_37 rfl ?_
      refine us_iload_n hR dX11_trial_38 rfl ?_
      refine us_callV hR dX11_trial_39 (y := 12070) (by decide +kernel) (by decide) (J := i12070) rfl rfl rfl rfl hE.2.1 rfl (Nat.le_of_ble_eq_true rfl) (Nat.zero_le _) (Nat.zero_le _) ?_
      obtain ⟨s7, hs7⟩ := bOv_ex ho
      replace ho := bOv_go ho hs7
      refine sp_12070 hE hP5  hs7 (fun I7 hP7 hF7 => ?_)
      have hF7 := hF5.tr hF7
      refine us_aload_n hR dX11_trial_42 rfl ?_
      refine us_aload_n hR dX11_trial_43 rfl ?_
      refine us_getIx hR dX11_trial_44 fR_12_440 hE.2.1 rfl (RepM_f hP7 57) ?_
      refine us_putIM hE hP7 60 hR dX11_trial_47 fR_12_488 (Or.inl rfl) rfl rfl (fun I8 s8 hs8 hP8 hF8 => ?_)
      rw [← hs8, bS_eq] at ho
      have hF8 := hF7.tr hF8
      refine us_aload_n hR dX11_trial_50 rfl ?_
      refine us_aload_n hR dX11_trial_51 rfl ?_
      refine us_getIx hR dX11_trial_52 fR_12_410 hE.2.1 rfl (RepM_f hP8 49) ?_
      refine us_putIM hE hP8 63 hR dX11_trial_55 fR_12_491 (Or.inl rfl) rfl rfl (fun I9 s9 hs9 hP9 hF9 => ?_)
      rw [← hs9, bS_eq] at ho
      have hF9 := hF8.tr hF9
      refine us_iconstC hR dX11_trial_58 (c := 0) (by decide) ?_
      refine us_istore hR dX11_trial_59 (Nat.le_of_ble_eq_true rfl) ?_
      exact h12076_L61 _ l1 l2 l3 0  s9 I9 _ _ hP9 hF9 ho
    · rw [if_pos c6] at ho
      refine us_iconstC hR dX11_trial_33 (c := 0) (by decide) ?_
      refine us_iret hR dX11_trial_34 rfl rfl ?_
      cases ho
      exact h2 _ hP5 hF5
  refine us_aload_n hR dX11_trial_0 rfl ?_
  refine us_callV hR dX11_trial_1 (y := 12071) (by decide +kernel) (by decide) (J := i12071) rfl rfl rfl rfl hE.2.1 rfl (Nat.le_of_ble_eq_true rfl) (Nat.zero_le _) (Nat.zero_le _) ?_
  obtain ⟨s10, hs10⟩ := bOv_ex ho
  replace ho := bOv_go ho hs10
  refine sp_12071 hE hP  hs10 (fun I10 hP10 hF10 => ?_)
  have hF10 := hF.tr hF10
  refine us_aload_n hR dX11_trial_4 rfl ?_
  refine us_iload_n hR dX11_trial_5 rfl ?_
  refine us_i2l hR dX11_trial_6 ?_
  refine us_lconstC hR dX11_trial_7 (c := 0) (by decide) ?_
  refine us_ldc2_w hR dX11_trial_8 (v := 5000) (by decide +kernel) ?_
  refine us_callS hR dX11_trial_11 (y := 12002) (by decide +kernel) (by decide) (J := i12002) rfl rfl rfl rfl (rest := _) (Nat.le_of_ble_eq_true rfl) (Nat.zero_le _) (Nat.zero_le _) ?_
  refine sp_12002 hE hP10  (fun hb11 => ?_)
  refine us_aload_n hR dX11_trial_14 rfl ?_
  refine us_getIx hR dX11_trial_15 fR_12_254 hE.2.1 rfl (RepM_f hP10 9) ?_
  refine us_if_ne hR dX11_trial_18 25 (by decide) (fun c12 => ?_) (fun c12 => ?_)
  · rw [if_neg c12] at ho
    refine us_iconstC hR dX11_trial_25 (c := 0) (by decide) ?_
    exact h12076_J26 x0 x1 x2 0 (f_12002 x0.toInt64 0 5000 s10)  s10 I10 _ _ hP10 hF10 ho
  · rw [if_pos c12] at ho
    refine us_iconstC hR dX11_trial_21 (c := 1) (by decide) ?_
    refine us_goto hR dX11_trial_22 26 (by decide) ?_
    exact h12076_J26 x0 x1 x2 1 (f_12002 x0.toInt64 0 5000 s10)  s10 I10 _ _ hP10 hF10 ho
def f_12077 (x0 : Int32) (x1 : Int32) (x2 : Int32) (s : Mx) : Option (Mx × Int32) :=
  bO (f_12076 x0 x1 x2 s) fun s1 r1 =>
  some (s1, r1)
theorem sp_12077 {d : Nat} {G : ab_G} {ad : Nat → Nat} {I : Nat → Nat → Int32} {s : Mx} {P : ab_Pq} {X : ab_Xq} (hE : EM G ad) (hP : RepM I ad s) {x0 : Int32} {x1 : Int32} {x2 : Int32}  {o : Mx × Int32} (ho : f_12077 x0 x1 x2 s = some o) (h : ∀ I1, RepM I1 ad o.1 → FrM ad I I1 → P (gW G I1) (some (.int o.2))) : ab_Gam (d + 11) 12077 [.ref (ad 0), .int x0, .int x1, .int x2] (gW G I) P X := by
  have h2 := h
  have hF : FrM ad I I := FrM_rfl
  unfold f_12077 at ho
  refine ab_enter (I := i12077) rfl (Nat.le_of_ble_eq_true rfl) (fun R hR => ?_)
  refine us_aload_n hR dX11_trialByTree_0 rfl ?_
  refine us_iload_n hR dX11_trialByTree_1 rfl ?_
  refine us_iload_n hR dX11_trialByTree_2 rfl ?_
  refine us_iload_n hR dX11_trialByTree_3 rfl ?_
  refine us_callV hR dX11_trialByTree_4 (y := 12076) (by decide +kernel) (by decide) (J := i12076) rfl rfl rfl rfl hE.2.1 rfl (Nat.le_of_ble_eq_true rfl) (Nat.zero_le _) (Nat.zero_le _) ?_
  obtain ⟨q1, hs1⟩ := bO_ex ho
  obtain ⟨s1, r1⟩ := q1
  replace ho := bO_go ho hs1
  refine sp_12076 hE hP  hs1 (fun I1 hP1 hF1 => ?_)
  have hF1 := hF.tr hF1
  refine us_iret hR dX11_trialByTree_7 rfl rfl ?_
  cases ho
  exact h2 _ hP1 hF1
def f_12078  (s : Mx) : Mx × Int32 :=
  bT (f_12004 (mf s 60) s) fun s1 r1 =>
  (s1, r1)
theorem sp_12078 {d : Nat} {G : ab_G} {ad : Nat → Nat} {I : Nat → Nat → Int32} {s : Mx} {P : ab_Pq} {X : ab_Xq} (hE : EM G ad) (hP : RepM I ad s)   (h : ∀ I1 o, o = f_12078 s → RepM I1 ad o.1 → FrM ad I I1 → P (gW G I1) (some (.int o.2))) : ab_Gam (d + 2) 12078 [.ref (ad 0)] (gW G I) P X := by
  obtain ⟨o, ho⟩ : ∃ o, o = f_12078 s := ⟨_, rfl⟩
  have h2 := fun I1 => h I1 o ho
  have hF : FrM ad I I := FrM_rfl
  unfold f_12078 at ho
  refine ab_enter (I := i12078) rfl (Nat.le_of_ble_eq_true rfl) (fun R hR => ?_)
  refine us_aload_n hR dX11_outputs_0 rfl ?_
  refine us_aload_n hR dX11_outputs_1 rfl ?_
  refine us_getIx hR dX11_outputs_2 fR_12_488 hE.2.1 rfl (RepM_f hP 60) ?_
  refine us_callV hR dX11_outputs_5 (y := 12004) (by decide +kernel) (by decide) (J := i12004) rfl rfl rfl rfl hE.2.1 rfl (Nat.le_of_ble_eq_true rfl) (Nat.zero_le _) (Nat.zero_le _) ?_
  refine sp_12004 hE hP  (fun I1 q1 hs1 hP1 hF1 => ?_)
  rw [← hs1] at ho
  obtain ⟨s1, r1⟩ := q1
  rw [bT_eq] at ho
  have hF1 := hF.tr hF1
  refine us_iret hR dX11_outputs_8 rfl rfl ?_
  subst ho
  exact h2 _ hP1 hF1
def f_12079 (x0 : Int32) (s : Mx) : Option (Mx × Int32) :=
  bT (f_12003 (f_12002 x0.toInt64 0 (((mf s 60) - 1).toInt64) s) 1 1 s) fun s2 r2 =>
  if r2 = 0 then
    some (s2, 0)
  else
    gd (vi x0 9) <|
    some (s2, (mg s2 35 x0))
theorem sp_12079 {d : Nat} {G : ab_G} {ad : Nat → Nat} {I : Nat → Nat → Int32} {s : Mx} {P : ab_Pq} {X : ab_Xq} (hE : EM G ad) (hP : RepM I ad s) {x0 : Int32}  {o : Mx × Int32} (ho : f_12079 x0 s = some o) (h : ∀ I1, RepM I1 ad o.1 → FrM ad I I1 → P (gW G I1) (some (.int o.2))) : ab_Gam (d + 2) 12079 [.ref (ad 0), .int x0] (gW G I) P X := by
  have h2 := h
  have hF : FrM ad I I := FrM_rfl
  unfold f_12079 at ho
  refine ab_enter (I := i12079) rfl (Nat.le_of_ble_eq_true rfl) (fun R hR => ?_)
  refine us_aload_n hR dX11_outputAt_0 rfl ?_
  refine us_iload_n hR dX11_outputAt_1 rfl ?_
  refine us_i2l hR dX11_outputAt_2 ?_
  refine us_lconstC hR dX11_outputAt_3 (c := 0) (by decide) ?_
  refine us_aload_n hR dX11_outputAt_4 rfl ?_
  refine us_getIx hR dX11_outputAt_5 fR_12_488 hE.2.1 rfl (RepM_f hP 60) ?_
  refine us_iconstC hR dX11_outputAt_8 (c := 1) (by decide) ?_
  refine us_isub hR dX11_outputAt_9 ?_
  refine us_i2l hR dX11_outputAt_10 ?_
  refine us_callS hR dX11_outputAt_11 (y := 12002) (by decide +kernel) (by decide) (J := i12002) rfl rfl rfl rfl (rest := _) (Nat.le_of_ble_eq_true rfl) (Nat.zero_le _) (Nat.zero_le _) ?_
  refine sp_12002 hE hP  (fun hb1 => ?_)
  refine us_iconstC hR dX11_outputAt_14 (c := 1) (by decide) ?_
  refine us_iconstC hR dX11_outputAt_15 (c := 1) (by decide) ?_
  refine us_callV hR dX11_outputAt_16 (y := 12003) (by decide +kernel) (by decide) (J := i12003) rfl rfl rfl rfl hE.2.1 rfl (Nat.le_of_ble_eq_true rfl) (Nat.zero_le _) (Nat.zero_le _) ?_
  refine sp_12003 hE hP  (fun I2 q2 hs2 hb2 hP2 hF2 => ?_)
  rw [← hs2] at ho
  obtain ⟨s2, r2⟩ := q2
  rw [bT_eq] at ho
  have hF2 := hF.tr hF2
  refine us_if_eq hR dX11_outputAt_19 31 (by decide) (fun c3 => ?_) (fun c3 => ?_)
  · rw [if_pos c3] at ho
    refine us_iconstC hR dX11_outputAt_31 (c := 0) (by decide) ?_
    refine us_iret hR dX11_outputAt_32 rfl rfl ?_
    cases ho
    exact h2 _ hP2 hF2
  · rw [if_neg c3] at ho
    refine us_aload_n hR dX11_outputAt_22 rfl ?_
    refine us_getR hR dX11_outputAt_23 fR_12_114 hE.2.1 rfl (em_r_61 hE) ?_
    refine us_iload_n hR dX11_outputAt_26 rfl ?_
    have hg := gd_c ho
    rw [gd_e hg] at ho
    refine us_ialoadM hE hP2 (em_q_61 hE) hR dX11_outputAt_27 hg ?_
    refine us_goto hR dX11_outputAt_28 32 (by decide) ?_
    refine us_iret hR dX11_outputAt_32 rfl rfl ?_
    cases ho
    exact h2 _ hP2 hF2
def f_12080  (s : Mx) : Mx × Int32 :=
  bT (f_12004 (mf s 63) s) fun s1 r1 =>
  (s1, r1)
theorem sp_12080 {d : Nat} {G : ab_G} {ad : Nat → Nat} {I : Nat → Nat → Int32} {s : Mx} {P : ab_Pq} {X : ab_Xq} (hE : EM G ad) (hP : RepM I ad s)   (h : ∀ I1 o, o = f_12080 s → RepM I1 ad o.1 → FrM ad I I1 → P (gW G I1) (some (.int o.2))) : ab_Gam (d + 2) 12080 [.ref (ad 0)] (gW G I) P X := by
  obtain ⟨o, ho⟩ : ∃ o, o = f_12080 s := ⟨_, rfl⟩
  have h2 := fun I1 => h I1 o ho
  have hF : FrM ad I I := FrM_rfl
  unfold f_12080 at ho
  refine ab_enter (I := i12080) rfl (Nat.le_of_ble_eq_true rfl) (fun R hR => ?_)
  refine us_aload_n hR dX11_fuelLeft_0 rfl ?_
  refine us_aload_n hR dX11_fuelLeft_1 rfl ?_
  refine us_getIx hR dX11_fuelLeft_2 fR_12_491 hE.2.1 rfl (RepM_f hP 63) ?_
  refine us_callV hR dX11_fuelLeft_5 (y := 12004) (by decide +kernel) (by decide) (J := i12004) rfl rfl rfl rfl hE.2.1 rfl (Nat.le_of_ble_eq_true rfl) (Nat.zero_le _) (Nat.zero_le _) ?_
  refine sp_12004 hE hP  (fun I1 q1 hs1 hP1 hF1 => ?_)
  rw [← hs1] at ho
  obtain ⟨s1, r1⟩ := q1
  rw [bT_eq] at ho
  have hF1 := hF.tr hF1
  refine us_iret hR dX11_fuelLeft_8 rfl rfl ?_
  subst ho
  exact h2 _ hP1 hF1
def f_12081 (x0 : Int32) (s : Mx) : Option (Mx × Int32) :=
  bT (f_12003 (f_12060 x0 s) 1 1 s) fun s2 r2 =>
  if r2 = 0 then
    some (s2, 0)
  else
    gd (vi x0 32) <|
    some (s2, (mg s2 36 x0))
theorem sp_12081 {d : Nat} {G : ab_G} {ad : Nat → Nat} {I : Nat → Nat → Int32} {s : Mx} {P : ab_Pq} {X : ab_Xq} (hE : EM G ad) (hP : RepM I ad s) {x0 : Int32}  {o : Mx × Int32} (ho : f_12081 x0 s = some o) (h : ∀ I1, RepM I1 ad o.1 → FrM ad I I1 → P (gW G I1) (some (.int o.2))) : ab_Gam (d + 3) 12081 [.ref (ad 0), .int x0] (gW G I) P X := by
  have h2 := h
  have hF : FrM ad I I := FrM_rfl
  unfold f_12081 at ho
  refine ab_enter (I := i12081) rfl (Nat.le_of_ble_eq_true rfl) (fun R hR => ?_)
  refine us_aload_n hR dX11_cellAt_0 rfl ?_
  refine us_iload_n hR dX11_cellAt_1 rfl ?_
  refine us_callS hR dX11_cellAt_2 (y := 12060) (by decide +kernel) (by decide) (J := i12060) rfl rfl rfl rfl (rest := _) (Nat.le_of_ble_eq_true rfl) (Nat.zero_le _) (Nat.zero_le _) ?_
  refine sp_12060 hE hP  (fun hb1 => ?_)
  refine us_iconstC hR dX11_cellAt_5 (c := 1) (by decide) ?_
  refine us_iconstC hR dX11_cellAt_6 (c := 1) (by decide) ?_
  refine us_callV hR dX11_cellAt_7 (y := 12003) (by decide +kernel) (by decide) (J := i12003) rfl rfl rfl rfl hE.2.1 rfl (Nat.le_of_ble_eq_true rfl) (Nat.zero_le _) (Nat.zero_le _) ?_
  refine sp_12003 hE hP  (fun I2 q2 hs2 hb2 hP2 hF2 => ?_)
  rw [← hs2] at ho
  obtain ⟨s2, r2⟩ := q2
  rw [bT_eq] at ho
  have hF2 := hF.tr hF2
  refine us_if_eq hR dX11_cellAt_10 22 (by decide) (fun c3 => ?_) (fun c3 => ?_)
  · rw [if_pos c3] at ho
    refine us_iconstC hR dX11_cellAt_22 (c := 0) (by decide) ?_
    refine us_iret hR dX11_cellAt_23 rfl rfl ?_
    cases ho
    exact h2 _ hP2 hF2
  · rw [if_neg c3] at ho
    refine us_aload_n hR dX11_cellAt_13 rfl ?_
    refine us_getR hR dX11_cellAt_14 fR_12_117 hE.2.1 rfl (em_r_62 hE) ?_
    refine us_iload_n hR dX11_cellAt_17 rfl ?_
    have hg := gd_c ho
    rw [gd_e hg] at ho
    refine us_ialoadM hE hP2 (em_q_62 hE) hR dX11_cellAt_18 hg ?_
    refine us_goto hR dX11_cellAt_19 23 (by decide) ?_
    refine us_iret hR dX11_cellAt_23 rfl rfl ?_
    cases ho
    exact h2 _ hP2 hF2
def f_12082 (x0 : Int32) (s : Mx) : Int32 :=
  (f_12002 x0.toInt64 0 (((mf s 65) - 1).toInt64) s)
theorem sp_12082 {d : Nat} {G : ab_G} {ad : Nat → Nat} {I : Nat → Nat → Int32} {s : Mx} {P : ab_Pq} {X : ab_Xq} (hE : EM G ad) (hP : RepM I ad s) {x0 : Int32}  (h : (f_12082 x0 s = 0 ∨ f_12082 x0 s = 1) → P (gW G I) (some (.int (f_12082 x0 s)))) : ab_Gam (d + 2) 12082 [.ref (ad 0), .int x0] (gW G I) P X := by
  obtain ⟨o, ho⟩ : ∃ o, o = f_12082 x0 s := ⟨_, rfl⟩
  rw [← ho] at h
  have h2 := h
  have hF : FrM ad I I := FrM_rfl
  unfold f_12082 at ho
  refine ab_enter (I := i12082) rfl (Nat.le_of_ble_eq_true rfl) (fun R hR => ?_)
  refine us_iload_n hR dX11_isExercise_0 rfl ?_
  refine us_i2l hR dX11_isExercise_1 ?_
  refine us_lconstC hR dX11_isExercise_2 (c := 0) (by decide) ?_
  refine us_aload_n hR dX11_isExercise_3 rfl ?_
  refine us_getIx hR dX11_isExercise_4 fR_12_497 hE.2.1 rfl (RepM_f hP 65) ?_
  refine us_iconstC hR dX11_isExercise_7 (c := 1) (by decide) ?_
  refine us_isub hR dX11_isExercise_8 ?_
  refine us_i2l hR dX11_isExercise_9 ?_
  refine us_callS hR dX11_isExercise_10 (y := 12002) (by decide +kernel) (by decide) (J := i12002) rfl rfl rfl rfl (rest := _) (Nat.le_of_ble_eq_true rfl) (Nat.zero_le _) (Nat.zero_le _) ?_
  refine sp_12002 hE hP  (fun hb1 => ?_)
  refine us_iret hR dX11_isExercise_13 rfl (nar01 hb1) ?_
  subst ho
  exact h2 hb1 
def f_12083 (x0 : Int32) (x1 : Int32) (s : Mx) : Option Int32 :=
  if (f_12082 x0 s) = 0 then
    some 0
  else
    gd (vi x0 4) <|
    if (f_12002 x1.toInt64 0 (((mg s 39 x0) - 1).toInt64) s) = 0 then
      some 0
    else
      some 1
theorem sp_12083 {d : Nat} {G : ab_G} {ad : Nat → Nat} {I : Nat → Nat → Int32} {s : Mx} {P : ab_Pq} {X : ab_Xq} (hE : EM G ad) (hP : RepM I ad s) {x0 : Int32} {x1 : Int32}  {o : Int32} (ho : f_12083 x0 x1 s = some o) (h : (o = 0 ∨ o = 1) → P (gW G I) (some (.int o))) : ab_Gam (d + 3) 12083 [.ref (ad 0), .int x0, .int x1] (gW G I) P X := by
  have h2 := h
  have hF : FrM ad I I := FrM_rfl
  unfold f_12083 at ho
  refine ab_enter (I := i12083) rfl (Nat.le_of_ble_eq_true rfl) (fun R hR => ?_)
  refine us_aload_n hR dX11_isTest_0 rfl ?_
  refine us_iload_n hR dX11_isTest_1 rfl ?_
  refine us_callV hR dX11_isTest_2 (y := 12082) (by decide +kernel) (by decide) (J := i12082) rfl rfl rfl rfl hE.2.1 rfl (Nat.le_of_ble_eq_true rfl) (Nat.zero_le _) (Nat.zero_le _) ?_
  refine sp_12082 hE hP  (fun hb1 => ?_)
  refine us_if_eq hR dX11_isTest_5 30 (by decide) (fun c2 => ?_) (fun c2 => ?_)
  · rw [if_pos c2] at ho
    refine us_iconstC hR dX11_isTest_30 (c := 0) (by decide) ?_
    refine us_iret hR dX11_isTest_31 rfl (nar01 (Or.inl rfl)) ?_
    cases ho
    exact h2 (Or.inl rfl) 
  · rw [if_neg c2] at ho
    refine us_iload_n hR dX11_isTest_8 rfl ?_
    refine us_i2l hR dX11_isTest_9 ?_
    refine us_lconstC hR dX11_isTest_10 (c := 0) (by decide) ?_
    refine us_aload_n hR dX11_isTest_11 rfl ?_
    refine us_getR hR dX11_isTest_12 fR_12_126 hE.2.1 rfl (em_r_68 hE) ?_
    refine us_iload_n hR dX11_isTest_15 rfl ?_
    have hg := gd_c ho
    rw [gd_e hg] at ho
    refine us_ialoadM hE hP (em_q_68 hE) hR dX11_isTest_16 hg ?_
    refine us_iconstC hR dX11_isTest_17 (c := 1) (by decide) ?_
    refine us_isub hR dX11_isTest_18 ?_
    refine us_i2l hR dX11_isTest_19 ?_
    refine us_callS hR dX11_isTest_20 (y := 12002) (by decide +kernel) (by decide) (J := i12002) rfl rfl rfl rfl (rest := _) (Nat.le_of_ble_eq_true rfl) (Nat.zero_le _) (Nat.zero_le _) ?_
    refine sp_12002 hE hP  (fun hb3 => ?_)
    refine us_if_eq hR dX11_isTest_23 30 (by decide) (fun c4 => ?_) (fun c4 => ?_)
    · rw [if_pos c4] at ho
      refine us_iconstC hR dX11_isTest_30 (c := 0) (by decide) ?_
      refine us_iret hR dX11_isTest_31 rfl (nar01 (Or.inl rfl)) ?_
      cases ho
      exact h2 (Or.inl rfl) 
    · rw [if_neg c4] at ho
      refine us_iconstC hR dX11_isTest_26 (c := 1) (by decide) ?_
      refine us_goto hR dX11_isTest_27 31 (by decide) ?_
      refine us_iret hR dX11_isTest_31 rfl (nar01 (Or.inr rfl)) ?_
      cases ho
      exact h2 (Or.inr rfl) 
def f_12084_J47  (l1 : Int32) (l2 : Int32) (k0 : Int32) (k1 : Int32) (s : Mx) : Option (Mx × Int32) :=
  bT (f_12003 k1 k0 1 s) fun s1 r1 =>
  if r1 = 0 then
    some (s1, 0)
  else
    gd (vi (mf s1 65) 4) <|
    bS (ms s1 37 (mf s1 65) l1) fun s3 =>
    gd (vi (mf s3 65) 4) <|
    bS (ms s3 38 (mf s3 65) l2) fun s4 =>
    gd (vi (mf s4 65) 4) <|
    bS (ms s4 39 (mf s4 65) 0) fun s5 =>
    bS (mp s5 65 ((mf s5 65) + 1)) fun s6 =>
    some (s6, ((mf s6 65) - 1))
def f_12084_J34  (l1 : Int32) (l2 : Int32) (k0 : Int32) (s : Mx) : Option (Mx × Int32) :=
  if 4 ≤ (mf s 65) then
    f_12084_J47 l1 l2 0 k0 s
  else
    f_12084_J47 l1 l2 1 k0 s
def f_12084_J33  (l1 : Int32) (l2 : Int32) (s : Mx) : Option (Mx × Int32) :=
  f_12084_J34 l1 l2 0 s
def f_12084 (x0 : Int32) (x1 : Int32) (s : Mx) : Option (Mx × Int32) :=
  if (f_12002 x0.toInt64 1 2000 s) = 0 then
    f_12084_J33 x0 x1 s
  else
    if (f_12002 x1.toInt64 ((mf s 64).toInt64) 1000 s) = 0 then
      f_12084_J33 x0 x1 s
    else
      f_12084_J34 x0 x1 1 s
theorem sp_12084 {d : Nat} {G : ab_G} {ad : Nat → Nat} {I : Nat → Nat → Int32} {s : Mx} {P : ab_Pq} {X : ab_Xq} (hE : EM G ad) (hP : RepM I ad s) {x0 : Int32} {x1 : Int32}  {o : Mx × Int32} (ho : f_12084 x0 x1 s = some o) (h : ∀ I1, RepM I1 ad o.1 → FrM ad I I1 → P (gW G I1) (some (.int o.2))) : ab_Gam (d + 2) 12084 [.ref (ad 0), .int x0, .int x1] (gW G I) P X := by
  have h2 := h
  have hF : FrM ad I I := FrM_rfl
  unfold f_12084 at ho
  refine ab_enter (I := i12084) rfl (Nat.le_of_ble_eq_true rfl) (fun R hR => ?_)
  have h12084_J47 : ∀ (l1 : Int32) (l2 : Int32) (k0 : Int32) (k1 : Int32)  (s : Mx) (Ia : Nat → Nat → Int32) (bc bs : Nat) (hPa : RepM Ia ad s) (hFa : FrM ad I Ia) (ho : f_12084_J47 l1 l2 k0 k1 s = some o), R 47 [some (.ref (ad 0)), some (.int l1), some (.int l2)] [.int k0, .int k1, .ref (ad 0)] (gW G Ia) bc bs := by
    intro l1 l2 k0 k1  s Ia bc bs  hPa hFa ho
    unfold f_12084_J47 at ho
    refine us_iconstC hR dX11_addExercise_47 (c := 1) (by decide) ?_
    refine us_callV hR dX11_addExercise_48 (y := 12003) (by decide +kernel) (by decide) (J := i12003) rfl rfl rfl rfl hE.2.1 rfl (Nat.le_of_ble_eq_true rfl) (Nat.zero_le _) (Nat.zero_le _) ?_
    refine sp_12003 hE hPa  (fun I1 q1 hs1 hb1 hP1 hF1 => ?_)
    rw [← hs1] at ho
    obtain ⟨s1, r1⟩ := q1
    rw [bT_eq] at ho
    have hF1 := hFa.tr hF1
    refine us_if_ne hR dX11_addExercise_51 56 (by decide) (fun c2 => ?_) (fun c2 => ?_)
    · rw [if_neg c2] at ho
      refine us_aload_n hR dX11_addExercise_56 rfl ?_
      refine us_getR hR dX11_addExercise_57 fR_12_120 hE.2.1 rfl (em_r_66 hE) ?_
      refine us_aload_n hR dX11_addExercise_60 rfl ?_
      refine us_getIx hR dX11_addExercise_61 fR_12_497 hE.2.1 rfl (RepM_f hP1 65) ?_
      refine us_iload_n hR dX11_addExercise_64 rfl ?_
      have hg := gd_c ho
      rw [gd_e hg] at ho
      refine us_iastoreM hE hP1 (em_q_66 hE) hR dX11_addExercise_65 hg (fun I3 s3 hs3 hP3 hF3 => ?_)
      rw [← hs3, bS_eq] at ho
      have hF3 := hF1.tr hF3
      refine us_aload_n hR dX11_addExercise_66 rfl ?_
      refine us_getR hR dX11_addExercise_67 fR_12_123 hE.2.1 rfl (em_r_67 hE) ?_
      refine us_aload_n hR dX11_addExercise_70 rfl ?_
      refine us_getIx hR dX11_addExercise_71 fR_12_497 hE.2.1 rfl (RepM_f hP3 65) ?_
      refine us_iload_n hR dX11_addExercise_74 rfl ?_
      have hg := gd_c ho
      rw [gd_e hg] at ho
      refine us_iastoreM hE hP3 (em_q_67 hE) hR dX11_addExercise_75 hg (fun I4 s4 hs4 hP4 hF4 => ?_)
      rw [← hs4, bS_eq] at ho
      have hF4 := hF3.tr hF4
      refine us_aload_n hR dX11_addExercise_76 rfl ?_
      refine us_getR hR dX11_addExercise_77 fR_12_126 hE.2.1 rfl (em_r_68 hE) ?_
      refine us_aload_n hR dX11_addExercise_80 rfl ?_
      refine us_getIx hR dX11_addExercise_81 fR_12_497 hE.2.1 rfl (RepM_f hP4 65) ?_
      refine us_iconstC hR dX11_addExercise_84 (c := 0) (by decide) ?_
      have hg := gd_c ho
      rw [gd_e hg] at ho
      refine us_iastoreM hE hP4 (em_q_68 hE) hR dX11_addExercise_85 hg (fun I5 s5 hs5 hP5 hF5 => ?_)
      rw [← hs5, bS_eq] at ho
      have hF5 := hF4.tr hF5
      refine us_aload_n hR dX11_addExercise_86 rfl ?_
      refine us_dup hR dX11_addExercise_87 rfl ?_
      refine us_getIx hR dX11_addExercise_88 fR_12_497 hE.2.1 rfl (RepM_f hP5 65) ?_
      refine us_iconstC hR dX11_addExercise_91 (c := 1) (by decide) ?_
      refine us_iadd hR dX11_addExercise_92 ?_
      refine us_putIM hE hP5 65 hR dX11_addExercise_93 fR_12_497 (Or.inl rfl) rfl rfl (fun I6 s6 hs6 hP6 hF6 => ?_)
      rw [← hs6, bS_eq] at ho
      have hF6 := hF5.tr hF6
      refine us_aload_n hR dX11_addExercise_96 rfl ?_
      refine us_getIx hR dX11_addExercise_97 fR_12_497 hE.2.1 rfl (RepM_f hP6 65) ?_
      refine us_iconstC hR dX11_addExercise_100 (c := 1) (by decide) ?_
      refine us_isub hR dX11_addExercise_101 ?_
      refine us_iret hR dX11_addExercise_102 rfl rfl ?_
      cases ho
      exact h2 _ hP6 hF6
    · rw [if_pos c2] at ho
      refine us_iconstC hR dX11_addExercise_54 (c := 0) (by decide) ?_
      refine us_iret hR dX11_addExercise_55 rfl rfl ?_
      cases ho
      exact h2 _ hP1 hF1
  have h12084_J34 : ∀ (l1 : Int32) (l2 : Int32) (k0 : Int32)  (s : Mx) (Ia : Nat → Nat → Int32) (bc bs : Nat) (hPa : RepM Ia ad s) (hFa : FrM ad I Ia) (ho : f_12084_J34 l1 l2 k0 s = some o), R 34 [some (.ref (ad 0)), some (.int l1), some (.int l2)] [.int k0, .ref (ad 0)] (gW G Ia) bc bs := by
    intro l1 l2 k0  s Ia bc bs  hPa hFa ho
    unfold f_12084_J34 at ho
    refine us_aload_n hR dX11_addExercise_34 rfl ?_
    refine us_getIx hR dX11_addExercise_35 fR_12_497 hE.2.1 rfl (RepM_f hPa 65) ?_
    refine us_iconstC hR dX11_addExercise_38 (c := 4) (by decide) ?_
    refine us_icmp_ge hR dX11_addExercise_39 46 (by decide) (fun c7 => ?_) (fun c7 => ?_)
    · rw [if_pos c7] at ho
      refine us_iconstC hR dX11_addExercise_46 (c := 0) (by decide) ?_
      exact h12084_J47 l1 l2 0 k0  s Ia _ _ hPa hFa ho
    · rw [if_neg c7] at ho
      refine us_iconstC hR dX11_addExercise_42 (c := 1) (by decide) ?_
      refine us_goto hR dX11_addExercise_43 47 (by decide) ?_
      exact h12084_J47 l1 l2 1 k0  s Ia _ _ hPa hFa ho
  have h12084_J33 : ∀ (l1 : Int32) (l2 : Int32)  (s : Mx) (Ia : Nat → Nat → Int32) (bc bs : Nat) (hPa : RepM Ia ad s) (hFa : FrM ad I Ia) (ho : f_12084_J33 l1 l2 s = some o), R 33 [some (.ref (ad 0)), some (.int l1), some (.int l2)] [.ref (ad 0)] (gW G Ia) bc bs := by
    intro l1 l2  s Ia bc bs  hPa hFa ho
    unfold f_12084_J33 at ho
    refine us_iconstC hR dX11_addExercise_33 (c := 0) (by decide) ?_
    exact h12084_J34 l1 l2 0  s Ia _ _ hPa hFa ho
  refine us_aload_n hR dX11_addExercise_0 rfl ?_
  refine us_iload_n hR dX11_addExercise_1 rfl ?_
  refine us_i2l hR dX11_addExercise_2 ?_
  refine us_lconstC hR dX11_addExercise_3 (c := 1) (by decide) ?_
  refine us_ldc2_w hR dX11_addExercise_4 (v := 2000) (by decide +kernel) ?_
  refine us_callS hR dX11_addExercise_7 (y := 12002) (by decide +kernel) (by decide) (J := i12002) rfl rfl rfl rfl (rest := _) (Nat.le_of_ble_eq_true rfl) (Nat.zero_le _) (Nat.zero_le _) ?_
  refine sp_12002 hE hP  (fun hb8 => ?_)
  refine us_if_eq hR dX11_addExercise_10 33 (by decide) (fun c9 => ?_) (fun c9 => ?_)
  · rw [if_pos c9] at ho
    exact h12084_J33 x0 x1  s I _ _ hP hF ho
  · rw [if_neg c9] at ho
    refine us_iload_n hR dX11_addExercise_13 rfl ?_
    refine us_i2l hR dX11_addExercise_14 ?_
    refine us_aload_n hR dX11_addExercise_15 rfl ?_
    refine us_getIx hR dX11_addExercise_16 fR_12_505 hE.2.1 rfl (RepM_f hP 64) ?_
    refine us_i2l hR dX11_addExercise_19 ?_
    refine us_ldc2_w hR dX11_addExercise_20 (v := 1000) (by decide +kernel) ?_
    refine us_callS hR dX11_addExercise_23 (y := 12002) (by decide +kernel) (by decide) (J := i12002) rfl rfl rfl rfl (rest := _) (Nat.le_of_ble_eq_true rfl) (Nat.zero_le _) (Nat.zero_le _) ?_
    refine sp_12002 hE hP  (fun hb10 => ?_)
    refine us_if_eq hR dX11_addExercise_26 33 (by decide) (fun c11 => ?_) (fun c11 => ?_)
    · rw [if_pos c11] at ho
      exact h12084_J33 x0 x1  s I _ _ hP hF ho
    · rw [if_neg c11] at ho
      refine us_iconstC hR dX11_addExercise_29 (c := 1) (by decide) ?_
      refine us_goto hR dX11_addExercise_30 34 (by decide) ?_
      exact h12084_J34 x0 x1 1  s I _ _ hP hF ho
def f_12085_J125  (l1 : Int32) (l2 : Int32) (l3 : Int32) (l4 : Int32) (l5 : Int32) (s : Mx) : Option Mx :=
  gd (vi ((8 * l1) + l2) 240) <|
  bS (ms s 50 ((8 * l1) + l2) (mf s 50)) fun s1 =>
  gd (vi ((8 * l1) + l2) 240) <|
  bS (ms s1 51 ((8 * l1) + l2) (vp_nar .boolean l4)) fun s2 =>
  some s2
def f_12085_L75  : Nat → Int32 → Int32 → Int32 → Int32 → Int32 → Mx → Option Mx
  | 0, _, _, _, _, _, _ => none
  | n + 1, l1, l2, l3, l4, l5, s =>
    gd (vi l3 32) <|
    if (mg s 42 l3) ≤ l5 then
      f_12085_J125 l1 l2 l3 l4 l5 s
    else
      if l4 = 0 then
        f_12085_J125 l1 l2 l3 l4 l5 s
      else
        gd (vi l5 9) <|
        gd (vi ((2 * l3) + l5) 64) <|
        if (mg s 33 l5) = (mg s 43 ((2 * l3) + l5)) then
          f_12085_L75 n l1 l2 l3 1 (l5 + 1) s
        else
          f_12085_L75 n l1 l2 l3 0 (l5 + 1) s
def f_12085 (x0 : Int32) (x1 : Int32) (s : Mx) : Option Mx :=
  gd (vi x0 30) <|
  gd (vi x0 30) <|
  gd (vi (mg s 47 x0) 4) <|
  gd (vi (2 * ((8 * (mg s 47 x0)) + x1)) 64) <|
  gd (vi ((2 * ((8 * (mg s 47 x0)) + x1)) + 1) 64) <|
  bOv (f_12070 (mg s 37 (mg s 47 x0)) (mg s 41 (2 * ((8 * (mg s 47 x0)) + x1))) (mg s 41 ((2 * ((8 * (mg s 47 x0)) + x1)) + 1)) s) fun s6 =>
  if (mf s6 50) = 0 then
    gd (vi ((8 * (mg s 47 x0)) + x1) 32) <|
    if (mf s6 57) = (mg s6 42 ((8 * (mg s 47 x0)) + x1)) then
      f_12085_L75 1000 x0 x1 ((8 * (mg s 47 x0)) + x1) 1 0 s6
    else
      f_12085_L75 1000 x0 x1 ((8 * (mg s 47 x0)) + x1) 0 0 s6
  else
    f_12085_L75 1000 x0 x1 ((8 * (mg s 47 x0)) + x1) 0 0 s6
theorem sp_12085 {d : Nat} {G : ab_G} {ad : Nat → Nat} {I : Nat → Nat → Int32} {s : Mx} {P : ab_Pq} {X : ab_Xq} (hE : EM G ad) (hP : RepM I ad s) {x0 : Int32} {x1 : Int32}  {o : Mx} (ho : f_12085 x0 x1 s = some o) (h : ∀ I1, RepM I1 ad o → FrM ad I I1 → P (gW G I1) none) : ab_Gam (d + 7) 12085 [.ref (ad 0), .int x0, .int x1] (gW G I) P X := by
  have h2 := h
  have hF : FrM ad I I := FrM_rfl
  unfold f_12085 at ho
  refine ab_enter (I := i12085) rfl (Nat.le_of_ble_eq_true rfl) (fun R hR => ?_)
  have h12085_J125 : ∀ (l1 : Int32) (l2 : Int32) (l3 : Int32) (l4 : Int32) (l5 : Int32)  (s : Mx) (Ia : Nat → Nat → Int32) (bc bs : Nat) (hPa : RepM Ia ad s) (hFa : FrM ad I Ia) (ho : f_12085_J125 l1 l2 l3 l4 l5 s = some o), R 125 [some (.ref (ad 0)), some (.int l1), some (.int l2), some (.int l3), some (.int l4), some (.int l5)] [] (gW G Ia) bc bs := by
    intro l1 l2 l3 l4 l5  s Ia bc bs  hPa hFa ho
    unfold f_12085_J125 at ho
    refine us_aload_n hR dX11_tests_125 rfl ?_
    refine us_getR hR dX11_tests_126 fR_12_159 hE.2.1 rfl (em_r_80 hE) ?_
    refine us_bipushC hR dX11_tests_129 (c := 8) (by decide) ?_
    refine us_iload_n hR dX11_tests_131 rfl ?_
    refine us_imul hR dX11_tests_132 ?_
    refine us_iload_n hR dX11_tests_133 rfl ?_
    refine us_iadd hR dX11_tests_134 ?_
    refine us_aload_n hR dX11_tests_135 rfl ?_
    refine us_getIx hR dX11_tests_136 fR_12_413 hE.2.1 rfl (RepM_f hPa 50) ?_
    have hg := gd_c ho
    rw [gd_e hg] at ho
    refine us_iastoreM hE hPa (em_q_80 hE) hR dX11_tests_139 hg (fun I1 s1 hs1 hP1 hF1 => ?_)
    rw [← hs1, bS_eq] at ho
    have hF1 := hFa.tr hF1
    refine us_aload_n hR dX11_tests_140 rfl ?_
    refine us_getR hR dX11_tests_141 fR_12_162 hE.2.1 rfl (em_r_81 hE) ?_
    refine us_bipushC hR dX11_tests_144 (c := 8) (by decide) ?_
    refine us_iload_n hR dX11_tests_146 rfl ?_
    refine us_imul hR dX11_tests_147 ?_
    refine us_iload_n hR dX11_tests_148 rfl ?_
    refine us_iadd hR dX11_tests_149 ?_
    refine us_iload hR dX11_tests_150 rfl ?_
    have hg := gd_c ho
    rw [gd_e hg] at ho
    refine us_bastoreM hE hP1 (em_q_81 hE) hR dX11_tests_152 hg (fun I2 s2 hs2 hP2 hF2 => ?_)
    rw [← hs2, bS_eq] at ho
    have hF2 := hF1.tr hF2
    refine us_vret hR dX11_tests_153 rfl ?_
    cases ho
    exact h2 _ hP2 hF2
  have h12085_L75 : ∀ (n : Nat) (l1 : Int32) (l2 : Int32) (l3 : Int32) (l4 : Int32) (l5 : Int32)  (s : Mx) (Ia : Nat → Nat → Int32) (bc bs : Nat) (hPa : RepM Ia ad s) (hFa : FrM ad I Ia) (ho : f_12085_L75 n l1 l2 l3 l4 l5 s = some o), R 75 [some (.ref (ad 0)), some (.int l1), some (.int l2), some (.int l3), some (.int l4), some (.int l5)] [] (gW G Ia) bc bs := by
    intro n
    induction n with
    | zero => intro l1 l2 l3 l4 l5  s Ia bc bs  hPa hFa ho; exact absurd ho (by intro hc; cases hc)
    | succ n75 ih75 =>
      intro l1 l2 l3 l4 l5  s Ia bc bs  hPa hFa ho
      rw [f_12085_L75] at ho
      refine us_iload hR dX11_tests_75 rfl ?_
      refine us_aload_n hR dX11_tests_77 rfl ?_
      refine us_getR hR dX11_tests_78 fR_12_135 hE.2.1 rfl (em_r_71 hE) ?_
      refine us_iload_n hR dX11_tests_81 rfl ?_
      have hg := gd_c ho
      rw [gd_e hg] at ho
      refine us_ialoadM hE hPa (em_q_71 hE) hR dX11_tests_82 hg ?_
      refine us_icmp_ge hR dX11_tests_83 125 (by decide) (fun c3 => ?_) (fun c3 => ?_)
      · rw [if_pos c3] at ho
        exact h12085_J125 l1 l2 l3 l4 l5  s Ia _ _ hPa hFa ho
      · rw [if_neg c3] at ho
        refine us_iload hR dX11_tests_86 rfl ?_
        refine us_if_eq hR dX11_tests_88 125 (by decide) (fun c4 => ?_) (fun c4 => ?_)
        · rw [if_pos c4] at ho
          exact h12085_J125 l1 l2 l3 l4 l5  s Ia _ _ hPa hFa ho
        · rw [if_neg c4] at ho
          refine us_aload_n hR dX11_tests_91 rfl ?_
          refine us_getR hR dX11_tests_92 fR_12_108 hE.2.1 rfl (em_r_58 hE) ?_
          refine us_iload hR dX11_tests_95 rfl ?_
          have hg := gd_c ho
          rw [gd_e hg] at ho
          refine us_ialoadM hE hPa (em_q_58 hE) hR dX11_tests_97 hg ?_
          refine us_aload_n hR dX11_tests_98 rfl ?_
          refine us_getR hR dX11_tests_99 fR_12_138 hE.2.1 rfl (em_r_72 hE) ?_
          refine us_iconstC hR dX11_tests_102 (c := 2) (by decide) ?_
          refine us_iload_n hR dX11_tests_103 rfl ?_
          refine us_imul hR dX11_tests_104 ?_
          refine us_iload hR dX11_tests_105 rfl ?_
          refine us_iadd hR dX11_tests_107 ?_
          have hg := gd_c ho
          rw [gd_e hg] at ho
          refine us_ialoadM hE hPa (em_q_72 hE) hR dX11_tests_108 hg ?_
          refine us_icmp_ne hR dX11_tests_109 116 (by decide) (fun c5 => ?_) (fun c5 => ?_)
          · rw [if_neg c5] at ho
            refine us_iconstC hR dX11_tests_116 (c := 0) (by decide) ?_
            refine us_istore hR dX11_tests_117 (Nat.le_of_ble_eq_true rfl) ?_
            refine us_iincC hR dX11_tests_119 rfl (Nat.le_of_ble_eq_true rfl) (c := 1) (by decide) ?_
            refine us_goto hR dX11_tests_122 75 (by decide) ?_
            exact ih75 l1 l2 l3 0 (l5 + 1)  s Ia _ _ hPa hFa ho
          · rw [if_pos c5] at ho
            refine us_iconstC hR dX11_tests_112 (c := 1) (by decide) ?_
            refine us_goto hR dX11_tests_113 117 (by decide) ?_
            refine us_istore hR dX11_tests_117 (Nat.le_of_ble_eq_true rfl) ?_
            refine us_iincC hR dX11_tests_119 rfl (Nat.le_of_ble_eq_true rfl) (c := 1) (by decide) ?_
            refine us_goto hR dX11_tests_122 75 (by decide) ?_
            exact ih75 l1 l2 l3 1 (l5 + 1)  s Ia _ _ hPa hFa ho
  refine us_bipushC hR dX11_tests_0 (c := 8) (by decide) ?_
  refine us_aload_n hR dX11_tests_2 rfl ?_
  refine us_getR hR dX11_tests_3 fR_12_150 hE.2.1 rfl (em_r_77 hE) ?_
  refine us_iload_n hR dX11_tests_6 rfl ?_
  have hg := gd_c ho
  rw [gd_e hg] at ho
  refine us_ialoadM hE hP (em_q_77 hE) hR dX11_tests_7 hg ?_
  refine us_imul hR dX11_tests_8 ?_
  refine us_iload_n hR dX11_tests_9 rfl ?_
  refine us_iadd hR dX11_tests_10 ?_
  refine us_istore_n hR dX11_tests_11 (Nat.le_of_ble_eq_true rfl) ?_
  refine us_aload_n hR dX11_tests_12 rfl ?_
  refine us_aload_n hR dX11_tests_13 rfl ?_
  refine us_getR hR dX11_tests_14 fR_12_120 hE.2.1 rfl (em_r_66 hE) ?_
  refine us_aload_n hR dX11_tests_17 rfl ?_
  refine us_getR hR dX11_tests_18 fR_12_150 hE.2.1 rfl (em_r_77 hE) ?_
  refine us_iload_n hR dX11_tests_21 rfl ?_
  have hg := gd_c ho
  rw [gd_e hg] at ho
  refine us_ialoadM hE hP (em_q_77 hE) hR dX11_tests_22 hg ?_
  have hg := gd_c ho
  rw [gd_e hg] at ho
  refine us_ialoadM hE hP (em_q_66 hE) hR dX11_tests_23 hg ?_
  refine us_aload_n hR dX11_tests_24 rfl ?_
  refine us_getR hR dX11_tests_25 fR_12_132 hE.2.1 rfl (em_r_70 hE) ?_
  refine us_iconstC hR dX11_tests_28 (c := 2) (by decide) ?_
  refine us_iload_n hR dX11_tests_29 rfl ?_
  refine us_imul hR dX11_tests_30 ?_
  have hg := gd_c ho
  rw [gd_e hg] at ho
  refine us_ialoadM hE hP (em_q_70 hE) hR dX11_tests_31 hg ?_
  refine us_aload_n hR dX11_tests_32 rfl ?_
  refine us_getR hR dX11_tests_33 fR_12_132 hE.2.1 rfl (em_r_70 hE) ?_
  refine us_iconstC hR dX11_tests_36 (c := 2) (by decide) ?_
  refine us_iload_n hR dX11_tests_37 rfl ?_
  refine us_imul hR dX11_tests_38 ?_
  refine us_iconstC hR dX11_tests_39 (c := 1) (by decide) ?_
  refine us_iadd hR dX11_tests_40 ?_
  have hg := gd_c ho
  rw [gd_e hg] at ho
  refine us_ialoadM hE hP (em_q_70 hE) hR dX11_tests_41 hg ?_
  refine us_callV hR dX11_tests_42 (y := 12070) (by decide +kernel) (by decide) (J := i12070) rfl rfl rfl rfl hE.2.1 rfl (Nat.le_of_ble_eq_true rfl) (Nat.zero_le _) (Nat.zero_le _) ?_
  obtain ⟨s6, hs6⟩ := bOv_ex ho
  replace ho := bOv_go ho hs6
  refine sp_12070 hE hP  hs6 (fun I6 hP6 hF6 => ?_)
  have hF6 := hF.tr hF6
  refine us_aload_n hR dX11_tests_45 rfl ?_
  refine us_getIx hR dX11_tests_46 fR_12_413 hE.2.1 rfl (RepM_f hP6 50) ?_
  refine us_if_ne hR dX11_tests_49 69 (by decide) (fun c7 => ?_) (fun c7 => ?_)
  · rw [if_neg c7] at ho
    refine us_iconstC hR dX11_tests_69 (c := 0) (by decide) ?_
    refine us_istore hR dX11_tests_70 (Nat.le_of_ble_eq_true rfl) ?_
    refine us_iconstC hR dX11_tests_72 (c := 0) (by decide) ?_
    refine us_istore hR dX11_tests_73 (Nat.le_of_ble_eq_true rfl) ?_
    exact h12085_L75 _ x0 x1 ((8 * (mg s 47 x0)) + x1) 0 0  s6 I6 _ _ hP6 hF6 ho
  · rw [if_pos c7] at ho
    refine us_aload_n hR dX11_tests_52 rfl ?_
    refine us_getIx hR dX11_tests_53 fR_12_440 hE.2.1 rfl (RepM_f hP6 57) ?_
    refine us_aload_n hR dX11_tests_56 rfl ?_
    refine us_getR hR dX11_tests_57 fR_12_135 hE.2.1 rfl (em_r_71 hE) ?_
    refine us_iload_n hR dX11_tests_60 rfl ?_
    have hg := gd_c ho
    rw [gd_e hg] at ho
    refine us_ialoadM hE hP6 (em_q_71 hE) hR dX11_tests_61 hg ?_
    refine us_icmp_ne hR dX11_tests_62 69 (by decide) (fun c8 => ?_) (fun c8 => ?_)
    · rw [if_neg c8] at ho
      refine us_iconstC hR dX11_tests_69 (c := 0) (by decide) ?_
      refine us_istore hR dX11_tests_70 (Nat.le_of_ble_eq_true rfl) ?_
      refine us_iconstC hR dX11_tests_72 (c := 0) (by decide) ?_
      refine us_istore hR dX11_tests_73 (Nat.le_of_ble_eq_true rfl) ?_
      exact h12085_L75 _ x0 x1 ((8 * (mg s 47 x0)) + x1) 0 0  s6 I6 _ _ hP6 hF6 ho
    · rw [if_pos c8] at ho
      refine us_iconstC hR dX11_tests_65 (c := 1) (by decide) ?_
      refine us_goto hR dX11_tests_66 70 (by decide) ?_
      refine us_istore hR dX11_tests_70 (Nat.le_of_ble_eq_true rfl) ?_
      refine us_iconstC hR dX11_tests_72 (c := 0) (by decide) ?_
      refine us_istore hR dX11_tests_73 (Nat.le_of_ble_eq_true rfl) ?_
      exact h12085_L75 _ x0 x1 ((8 * (mg s 47 x0)) + x1) 1 0  s6 I6 _ _ hP6 hF6 ho
def f_12086_L171  : Nat → Int32 → Int32 → Int32 → Int32 → Int32 → Int32 → Int32 → Int32 → Int32 → Int32 → Int32 → Mx → Option (Mx × Int32)
  | 0, _, _, _, _, _, _, _, _, _, _, _, _ => none
  | n + 1, l1, l2, l3, l4, l5, l6, l7, l8, l9, l10, l11, s =>
    if (mf s 74) ≤ l11 then
      some (s, l9)
    else
      gd (vi l11 30) <|
      if (mg s 47 l11) = l1 then
        bOv (f_12072 l11 s) fun s3 =>
        bOv (f_12085 l11 l9 s3) fun s4 =>
        f_12086_L171 n l1 l2 l3 l4 l5 l6 l7 l8 l9 l10 (l11 + 1) s4
      else
        f_12086_L171 n l1 l2 l3 l4 l5 l6 l7 l8 l9 l10 (l11 + 1) s
def f_12086_J61  (l1 : Int32) (l2 : Int32) (l3 : Int32) (l4 : Int32) (l5 : Int32) (l6 : Int32) (l7 : Int32) (l8 : Int32) (k0 : Int32) (k1 : Int32) (k2 : Int32) (s : Mx) : Option (Mx × Int32) :=
  bT (f_12003 k2 k1 k0 s) fun s5 r5 =>
  if r5 = 0 then
    some (s5, 0)
  else
    gd (vi l1 4) <|
    gd (vi ((8 * l1) + (mg s5 39 l1)) 32) <|
    bS (ms s5 40 ((8 * l1) + (mg s5 39 l1)) l2) fun s7 =>
    gd (vi (2 * ((8 * l1) + (mg s5 39 l1))) 64) <|
    bS (ms s7 41 (2 * ((8 * l1) + (mg s5 39 l1))) l3) fun s8 =>
    gd (vi ((2 * ((8 * l1) + (mg s5 39 l1))) + 1) 64) <|
    bS (ms s8 41 ((2 * ((8 * l1) + (mg s5 39 l1))) + 1) l4) fun s9 =>
    gd (vi ((8 * l1) + (mg s5 39 l1)) 32) <|
    bS (ms s9 42 ((8 * l1) + (mg s5 39 l1)) l5) fun s10 =>
    gd (vi (2 * ((8 * l1) + (mg s5 39 l1))) 64) <|
    bS (ms s10 43 (2 * ((8 * l1) + (mg s5 39 l1))) l6) fun s11 =>
    gd (vi ((2 * ((8 * l1) + (mg s5 39 l1))) + 1) 64) <|
    bS (ms s11 43 ((2 * ((8 * l1) + (mg s5 39 l1))) + 1) l7) fun s12 =>
    gd (vi ((8 * l1) + (mg s5 39 l1)) 32) <|
    bS (ms s12 44 ((8 * l1) + (mg s5 39 l1)) (vp_nar .boolean 0)) fun s13 =>
    gd (vi l1 4) <|
    gd (vi l1 4) <|
    bS (ms s13 39 l1 ((mg s13 39 l1) + 1)) fun s14 =>
    f_12086_L171 1000 l1 l2 l3 l4 l5 l6 l7 l8 (mg s5 39 l1) ((8 * l1) + (mg s5 39 l1)) 0 s14
def f_12086_J60  (l1 : Int32) (l2 : Int32) (l3 : Int32) (l4 : Int32) (l5 : Int32) (l6 : Int32) (l7 : Int32) (l8 : Int32) (k0 : Int32) (k1 : Int32) (s : Mx) : Option (Mx × Int32) :=
  f_12086_J61 l1 l2 l3 l4 l5 l6 l7 l8 0 k0 k1 s
def f_12086_J40  (l1 : Int32) (l2 : Int32) (l3 : Int32) (l4 : Int32) (l5 : Int32) (l6 : Int32) (l7 : Int32) (l8 : Int32) (k0 : Int32) (k1 : Int32) (s : Mx) : Option (Mx × Int32) :=
  if l8 = 0 then
    f_12086_J60 l1 l2 l3 l4 l5 l6 l7 l8 k0 k1 s
  else
    gd (vi l1 4) <|
    if 8 ≤ (mg s 39 l1) then
      f_12086_J60 l1 l2 l3 l4 l5 l6 l7 l8 k0 k1 s
    else
      f_12086_J61 l1 l2 l3 l4 l5 l6 l7 l8 1 k0 k1 s
def f_12086_J39  (l1 : Int32) (l2 : Int32) (l3 : Int32) (l4 : Int32) (l5 : Int32) (l6 : Int32) (l7 : Int32) (l8 : Int32) (k0 : Int32) (s : Mx) : Option (Mx × Int32) :=
  f_12086_J40 l1 l2 l3 l4 l5 l6 l7 l8 0 k0 s
def f_12086 (x0 : Int32) (x1 : Int32) (x2 : Int32) (x3 : Int32) (x4 : Int32) (x5 : Int32) (x6 : Int32) (s : Mx) : Option (Mx × Int32) :=
  if (f_12002 x1.toInt64 1 10 s) = 0 then
    f_12086_J39 x0 x1 x2 x3 x4 x5 x6 (f_12082 x0 s) (f_12082 x0 s) s
  else
    if (f_12002 x4.toInt64 0 2 s) = 0 then
      f_12086_J39 x0 x1 x2 x3 x4 x5 x6 (f_12082 x0 s) (f_12082 x0 s) s
    else
      f_12086_J40 x0 x1 x2 x3 x4 x5 x6 (f_12082 x0 s) 1 (f_12082 x0 s) s
theorem sp_12086 {d : Nat} {G : ab_G} {ad : Nat → Nat} {I : Nat → Nat → Int32} {s : Mx} {P : ab_Pq} {X : ab_Xq} (hE : EM G ad) (hP : RepM I ad s) {x0 : Int32} {x1 : Int32} {x2 : Int32} {x3 : Int32} {x4 : Int32} {x5 : Int32} {x6 : Int32}  {o : Mx × Int32} (ho : f_12086 x0 x1 x2 x3 x4 x5 x6 s = some o) (h : ∀ I1, RepM I1 ad o.1 → FrM ad I I1 → P (gW G I1) (some (.int o.2))) : ab_Gam (d + 10) 12086 [.ref (ad 0), .int x0, .int x1, .int x2, .int x3, .int x4, .int x5, .int x6] (gW G I) P X := by
  have h2 := h
  have hF : FrM ad I I := FrM_rfl
  unfold f_12086 at ho
  refine ab_enter (I := i12086) rfl (Nat.le_of_ble_eq_true rfl) (fun R hR => ?_)
  have h12086_L171 : ∀ (n : Nat) (l1 : Int32) (l2 : Int32) (l3 : Int32) (l4 : Int32) (l5 : Int32) (l6 : Int32) (l7 : Int32) (l8 : Int32) (l9 : Int32) (l10 : Int32) (l11 : Int32)  (s : Mx) (Ia : Nat → Nat → Int32) (bc bs : Nat) (hPa : RepM Ia ad s) (hFa : FrM ad I Ia) (ho : f_12086_L171 n l1 l2 l3 l4 l5 l6 l7 l8 l9 l10 l11 s = some o), R 171 [some (.ref (ad 0)), some (.int l1), some (.int l2), some (.int l3), some (.int l4), some (.int l5), some (.int l6), some (.int l7), some (.int l8), some (.int l9), some (.int l10), some (.int l11)] [] (gW G Ia) bc bs := by
    intro n
    induction n with
    | zero => intro l1 l2 l3 l4 l5 l6 l7 l8 l9 l10 l11  s Ia bc bs  hPa hFa ho; exact absurd ho (by intro hc; cases hc)
    | succ n171 ih171 =>
      intro l1 l2 l3 l4 l5 l6 l7 l8 l9 l10 l11  s Ia bc bs  hPa hFa ho
      rw [f_12086_L171] at ho
      refine us_iload hR dX11_addTest_171 rfl ?_
      refine us_aload_n hR dX11_addTest_173 rfl ?_
      refine us_getIx hR dX11_addTest_174 fR_12_512 hE.2.1 rfl (RepM_f hPa 74) ?_
      refine us_icmp_ge hR dX11_addTest_177 211 (by decide) (fun c1 => ?_) (fun c1 => ?_)
      · rw [if_pos c1] at ho
        refine us_iload hR dX11_addTest_211 rfl ?_
        refine us_iret hR dX11_addTest_213 rfl rfl ?_
        cases ho
        exact h2 _ hPa hFa
      · rw [if_neg c1] at ho
        refine us_aload_n hR dX11_addTest_180 rfl ?_
        refine us_getR hR dX11_addTest_181 fR_12_150 hE.2.1 rfl (em_r_77 hE) ?_
        refine us_iload hR dX11_addTest_184 rfl ?_
        have hg := gd_c ho
        rw [gd_e hg] at ho
        refine us_ialoadM hE hPa (em_q_77 hE) hR dX11_addTest_186 hg ?_
        refine us_iload_n hR dX11_addTest_187 rfl ?_
        refine us_icmp_ne hR dX11_addTest_188 205 (by decide) (fun c2 => ?_) (fun c2 => ?_)
        · rw [if_neg c2] at ho
          refine us_iincC hR dX11_addTest_205 rfl (Nat.le_of_ble_eq_true rfl) (c := 1) (by decide) ?_
          refine us_goto hR dX11_addTest_208 171 (by decide) ?_
          exact ih171 l1 l2 l3 l4 l5 l6 l7 l8 l9 l10 (l11 + 1)  s Ia _ _ hPa hFa ho
        · rw [if_pos c2] at ho
          refine us_aload_n hR dX11_addTest_191 rfl ?_
          refine us_iload hR dX11_addTest_192 rfl ?_
          refine us_callV hR dX11_addTest_194 (y := 12072) (by decide +kernel) (by decide) (J := i12072) rfl rfl rfl rfl hE.2.1 rfl (Nat.le_of_ble_eq_true rfl) (Nat.zero_le _) (Nat.zero_le _) ?_
          obtain ⟨s3, hs3⟩ := bOv_ex ho
          replace ho := bOv_go ho hs3
          refine sp_12072 hE hPa  hs3 (fun I3 hP3 hF3 => ?_)
          have hF3 := hFa.tr hF3
          refine us_aload_n hR dX11_addTest_197 rfl ?_
          refine us_iload hR dX11_addTest_198 rfl ?_
          refine us_iload hR dX11_addTest_200 rfl ?_
          refine us_callV hR dX11_addTest_202 (y := 12085) (by decide +kernel) (by decide) (J := i12085) rfl rfl rfl rfl hE.2.1 rfl (Nat.le_of_ble_eq_true rfl) (Nat.zero_le _) (Nat.zero_le _) ?_
          obtain ⟨s4, hs4⟩ := bOv_ex ho
          replace ho := bOv_go ho hs4
          refine sp_12085 hE hP3  hs4 (fun I4 hP4 hF4 => ?_)
          have hF4 := hF3.tr hF4
          refine us_iincC hR dX11_addTest_205 rfl (Nat.le_of_ble_eq_true rfl) (c := 1) (by decide) ?_
          refine us_goto hR dX11_addTest_208 171 (by decide) ?_
          exact ih171 l1 l2 l3 l4 l5 l6 l7 l8 l9 l10 (l11 + 1)  s4 I4 _ _ hP4 hF4 ho
  have h12086_J61 : ∀ (l1 : Int32) (l2 : Int32) (l3 : Int32) (l4 : Int32) (l5 : Int32) (l6 : Int32) (l7 : Int32) (l8 : Int32) (k0 : Int32) (k1 : Int32) (k2 : Int32)  (s : Mx) (Ia : Nat → Nat → Int32) (bc bs : Nat) (hPa : RepM Ia ad s) (hFa : FrM ad I Ia) (ho : f_12086_J61 l1 l2 l3 l4 l5 l6 l7 l8 k0 k1 k2 s = some o), R 61 [some (.ref (ad 0)), some (.int l1), some (.int l2), some (.int l3), some (.int l4), some (.int l5), some (.int l6), some (.int l7), some (.int l8), none, none, none] [.int k0, .int k1, .int k2, .ref (ad 0)] (gW G Ia) bc bs := by
    intro l1 l2 l3 l4 l5 l6 l7 l8 k0 k1 k2  s Ia bc bs  hPa hFa ho
    unfold f_12086_J61 at ho
    refine us_callV hR dX11_addTest_61 (y := 12003) (by decide +kernel) (by decide) (J := i12003) rfl rfl rfl rfl hE.2.1 rfl (Nat.le_of_ble_eq_true rfl) (Nat.zero_le _) (Nat.zero_le _) ?_
    refine sp_12003 hE hPa  (fun I5 q5 hs5 hb5 hP5 hF5 => ?_)
    rw [← hs5] at ho
    obtain ⟨s5, r5⟩ := q5
    rw [bT_eq] at ho
    have hF5 := hFa.tr hF5
    refine us_if_ne hR dX11_addTest_64 69 (by decide) (fun c6 => ?_) (fun c6 => ?_)
    · rw [if_neg c6] at ho
      refine us_aload_n hR dX11_addTest_69 rfl ?_
      refine us_getR hR dX11_addTest_70 fR_12_126 hE.2.1 rfl (em_r_68 hE) ?_
      refine us_iload_n hR dX11_addTest_73 rfl ?_
      have hg := gd_c ho
      rw [gd_e hg] at ho
      refine us_ialoadM hE hP5 (em_q_68 hE) hR dX11_addTest_74 hg ?_
      refine us_istore hR dX11_addTest_75 (Nat.le_of_ble_eq_true rfl) ?_
      refine us_bipushC hR dX11_addTest_77 (c := 8) (by decide) ?_
      refine us_iload_n hR dX11_addTest_79 rfl ?_
      refine us_imul hR dX11_addTest_80 ?_
      refine us_iload hR dX11_addTest_81 rfl ?_
      refine us_iadd hR dX11_addTest_83 ?_
      refine us_istore hR dX11_addTest_84 (Nat.le_of_ble_eq_true rfl) ?_
      refine us_aload_n hR dX11_addTest_86 rfl ?_
      refine us_getR hR dX11_addTest_87 fR_12_129 hE.2.1 rfl (em_r_69 hE) ?_
      refine us_iload hR dX11_addTest_90 rfl ?_
      refine us_iload_n hR dX11_addTest_92 rfl ?_
      have hg := gd_c ho
      rw [gd_e hg] at ho
      refine us_iastoreM hE hP5 (em_q_69 hE) hR dX11_addTest_93 hg (fun I7 s7 hs7 hP7 hF7 => ?_)
      rw [← hs7, bS_eq] at ho
      have hF7 := hF5.tr hF7
      refine us_aload_n hR dX11_addTest_94 rfl ?_
      refine us_getR hR dX11_addTest_95 fR_12_132 hE.2.1 rfl (em_r_70 hE) ?_
      refine us_iconstC hR dX11_addTest_98 (c := 2) (by decide) ?_
      refine us_iload hR dX11_addTest_99 rfl ?_
      refine us_imul hR dX11_addTest_101 ?_
      refine us_iload_n hR dX11_addTest_102 rfl ?_
      have hg := gd_c ho
      rw [gd_e hg] at ho
      refine us_iastoreM hE hP7 (em_q_70 hE) hR dX11_addTest_103 hg (fun I8 s8 hs8 hP8 hF8 => ?_)
      rw [← hs8, bS_eq] at ho
      have hF8 := hF7.tr hF8
      refine us_aload_n hR dX11_addTest_104 rfl ?_
      refine us_getR hR dX11_addTest_105 fR_12_132 hE.2.1 rfl (em_r_70 hE) ?_
      refine us_iconstC hR dX11_addTest_108 (c := 2) (by decide) ?_
      refine us_iload hR dX11_addTest_109 rfl ?_
      refine us_imul hR dX11_addTest_111 ?_
      refine us_iconstC hR dX11_addTest_112 (c := 1) (by decide) ?_
      refine us_iadd hR dX11_addTest_113 ?_
      refine us_iload hR dX11_addTest_114 rfl ?_
      have hg := gd_c ho
      rw [gd_e hg] at ho
      refine us_iastoreM hE hP8 (em_q_70 hE) hR dX11_addTest_116 hg (fun I9 s9 hs9 hP9 hF9 => ?_)
      rw [← hs9, bS_eq] at ho
      have hF9 := hF8.tr hF9
      refine us_aload_n hR dX11_addTest_117 rfl ?_
      refine us_getR hR dX11_addTest_118 fR_12_135 hE.2.1 rfl (em_r_71 hE) ?_
      refine us_iload hR dX11_addTest_121 rfl ?_
      refine us_iload hR dX11_addTest_123 rfl ?_
      have hg := gd_c ho
      rw [gd_e hg] at ho
      refine us_iastoreM hE hP9 (em_q_71 hE) hR dX11_addTest_125 hg (fun I10 s10 hs10 hP10 hF10 => ?_)
      rw [← hs10, bS_eq] at ho
      have hF10 := hF9.tr hF10
      refine us_aload_n hR dX11_addTest_126 rfl ?_
      refine us_getR hR dX11_addTest_127 fR_12_138 hE.2.1 rfl (em_r_72 hE) ?_
      refine us_iconstC hR dX11_addTest_130 (c := 2) (by decide) ?_
      refine us_iload hR dX11_addTest_131 rfl ?_
      refine us_imul hR dX11_addTest_133 ?_
      refine us_iload hR dX11_addTest_134 rfl ?_
      have hg := gd_c ho
      rw [gd_e hg] at ho
      refine us_iastoreM hE hP10 (em_q_72 hE) hR dX11_addTest_136 hg (fun I11 s11 hs11 hP11 hF11 => ?_)
      rw [← hs11, bS_eq] at ho
      have hF11 := hF10.tr hF11
      refine us_aload_n hR dX11_addTest_137 rfl ?_
      refine us_getR hR dX11_addTest_138 fR_12_138 hE.2.1 rfl (em_r_72 hE) ?_
      refine us_iconstC hR dX11_addTest_141 (c := 2) (by decide) ?_
      refine us_iload hR dX11_addTest_142 rfl ?_
      refine us_imul hR dX11_addTest_144 ?_
      refine us_iconstC hR dX11_addTest_145 (c := 1) (by decide) ?_
      refine us_iadd hR dX11_addTest_146 ?_
      refine us_iload hR dX11_addTest_147 rfl ?_
      have hg := gd_c ho
      rw [gd_e hg] at ho
      refine us_iastoreM hE hP11 (em_q_72 hE) hR dX11_addTest_149 hg (fun I12 s12 hs12 hP12 hF12 => ?_)
      rw [← hs12, bS_eq] at ho
      have hF12 := hF11.tr hF12
      refine us_aload_n hR dX11_addTest_150 rfl ?_
      refine us_getR hR dX11_addTest_151 fR_12_141 hE.2.1 rfl (em_r_73 hE) ?_
      refine us_iload hR dX11_addTest_154 rfl ?_
      refine us_iconstC hR dX11_addTest_156 (c := 0) (by decide) ?_
      have hg := gd_c ho
      rw [gd_e hg] at ho
      refine us_bastoreM hE hP12 (em_q_73 hE) hR dX11_addTest_157 hg (fun I13 s13 hs13 hP13 hF13 => ?_)
      rw [← hs13, bS_eq] at ho
      have hF13 := hF12.tr hF13
      refine us_aload_n hR dX11_addTest_158 rfl ?_
      refine us_getR hR dX11_addTest_159 fR_12_126 hE.2.1 rfl (em_r_68 hE) ?_
      refine us_iload_n hR dX11_addTest_162 rfl ?_
      refine us_dup2 hR dX11_addTest_163 rfl rfl ?_
      have hg := gd_c ho
      rw [gd_e hg] at ho
      refine us_ialoadM hE hP13 (em_q_68 hE) hR dX11_addTest_164 hg ?_
      refine us_iconstC hR dX11_addTest_165 (c := 1) (by decide) ?_
      refine us_iadd hR dX11_addTest_166 ?_
      have hg := gd_c ho
      rw [gd_e hg] at ho
      refine us_iastoreM hE hP13 (em_q_68 hE) hR dX11_addTest_167 hg (fun I14 s14 hs14 hP14 hF14 => ?_)
      rw [← hs14, bS_eq] at ho
      have hF14 := hF13.tr hF14
      refine us_iconstC hR dX11_addTest_168 (c := 0) (by decide) ?_
      refine us_istore hR dX11_addTest_169 (Nat.le_of_ble_eq_true rfl) ?_
      exact h12086_L171 _ l1 l2 l3 l4 l5 l6 l7 l8 (mg s5 39 l1) ((8 * l1) + (mg s5 39 l1)) 0  s14 I14 _ _ hP14 hF14 ho
    · rw [if_pos c6] at ho
      refine us_iconstC hR dX11_addTest_67 (c := 0) (by decide) ?_
      refine us_iret hR dX11_addTest_68 rfl rfl ?_
      cases ho
      exact h2 _ hP5 hF5
  have h12086_J60 : ∀ (l1 : Int32) (l2 : Int32) (l3 : Int32) (l4 : Int32) (l5 : Int32) (l6 : Int32) (l7 : Int32) (l8 : Int32) (k0 : Int32) (k1 : Int32)  (s : Mx) (Ia : Nat → Nat → Int32) (bc bs : Nat) (hPa : RepM Ia ad s) (hFa : FrM ad I Ia) (ho : f_12086_J60 l1 l2 l3 l4 l5 l6 l7 l8 k0 k1 s = some o), R 60 [some (.ref (ad 0)), some (.int l1), some (.int l2), some (.int l3), some (.int l4), some (.int l5), some (.int l6), some (.int l7), some (.int l8), none, none, none] [.int k0, .int k1, .ref (ad 0)] (gW G Ia) bc bs := by
    intro l1 l2 l3 l4 l5 l6 l7 l8 k0 k1  s Ia bc bs  hPa hFa ho
    unfold f_12086_J60 at ho
    refine us_iconstC hR dX11_addTest_60 (c := 0) (by decide) ?_
    exact h12086_J61 l1 l2 l3 l4 l5 l6 l7 l8 0 k0 k1  s Ia _ _ hPa hFa ho
  have h12086_J40 : ∀ (l1 : Int32) (l2 : Int32) (l3 : Int32) (l4 : Int32) (l5 : Int32) (l6 : Int32) (l7 : Int32) (l8 : Int32) (k0 : Int32) (k1 : Int32)  (s : Mx) (Ia : Nat → Nat → Int32) (bc bs : Nat) (hPa : RepM Ia ad s) (hFa : FrM ad I Ia) (ho : f_12086_J40 l1 l2 l3 l4 l5 l6 l7 l8 k0 k1 s = some o), R 40 [some (.ref (ad 0)), some (.int l1), some (.int l2), some (.int l3), some (.int l4), some (.int l5), some (.int l6), some (.int l7), some (.int l8), none, none, none] [.int k0, .int k1, .ref (ad 0)] (gW G Ia) bc bs := by
    intro l1 l2 l3 l4 l5 l6 l7 l8 k0 k1  s Ia bc bs  hPa hFa ho
    unfold f_12086_J40 at ho
    refine us_iload hR dX11_addTest_40 rfl ?_
    refine us_if_eq hR dX11_addTest_42 60 (by decide) (fun c15 => ?_) (fun c15 => ?_)
    · rw [if_pos c15] at ho
      exact h12086_J60 l1 l2 l3 l4 l5 l6 l7 l8 k0 k1  s Ia _ _ hPa hFa ho
    · rw [if_neg c15] at ho
      refine us_aload_n hR dX11_addTest_45 rfl ?_
      refine us_getR hR dX11_addTest_46 fR_12_126 hE.2.1 rfl (em_r_68 hE) ?_
      refine us_iload_n hR dX11_addTest_49 rfl ?_
      have hg := gd_c ho
      rw [gd_e hg] at ho
      refine us_ialoadM hE hPa (em_q_68 hE) hR dX11_addTest_50 hg ?_
      refine us_bipushC hR dX11_addTest_51 (c := 8) (by decide) ?_
      refine us_icmp_ge hR dX11_addTest_53 60 (by decide) (fun c16 => ?_) (fun c16 => ?_)
      · rw [if_pos c16] at ho
        exact h12086_J60 l1 l2 l3 l4 l5 l6 l7 l8 k0 k1  s Ia _ _ hPa hFa ho
      · rw [if_neg c16] at ho
        refine us_iconstC hR dX11_addTest_56 (c := 1) (by decide) ?_
        refine us_goto hR dX11_addTest_57 61 (by decide) ?_
        exact h12086_J61 l1 l2 l3 l4 l5 l6 l7 l8 1 k0 k1  s Ia _ _ hPa hFa ho
  have h12086_J39 : ∀ (l1 : Int32) (l2 : Int32) (l3 : Int32) (l4 : Int32) (l5 : Int32) (l6 : Int32) (l7 : Int32) (l8 : Int32) (k0 : Int32)  (s : Mx) (Ia : Nat → Nat → Int32) (bc bs : Nat) (hPa : RepM Ia ad s) (hFa : FrM ad I Ia) (ho : f_12086_J39 l1 l2 l3 l4 l5 l6 l7 l8 k0 s = some o), R 39 [some (.ref (ad 0)), some (.int l1), some (.int l2), some (.int l3), some (.int l4), some (.int l5), some (.int l6), some (.int l7), some (.int l8), none, none, none] [.int k0, .ref (ad 0)] (gW G Ia) bc bs := by
    intro l1 l2 l3 l4 l5 l6 l7 l8 k0  s Ia bc bs  hPa hFa ho
    unfold f_12086_J39 at ho
    refine us_iconstC hR dX11_addTest_39 (c := 0) (by decide) ?_
    exact h12086_J40 l1 l2 l3 l4 l5 l6 l7 l8 0 k0  s Ia _ _ hPa hFa ho
  refine us_aload_n hR dX11_addTest_0 rfl ?_
  refine us_iload_n hR dX11_addTest_1 rfl ?_
  refine us_callV hR dX11_addTest_2 (y := 12082) (by decide +kernel) (by decide) (J := i12082) rfl rfl rfl rfl hE.2.1 rfl (Nat.le_of_ble_eq_true rfl) (Nat.zero_le _) (Nat.zero_le _) ?_
  refine sp_12082 hE hP  (fun hb17 => ?_)
  refine us_istore hR dX11_addTest_5 (Nat.le_of_ble_eq_true rfl) ?_
  refine us_aload_n hR dX11_addTest_7 rfl ?_
  refine us_iload hR dX11_addTest_8 rfl ?_
  refine us_iload_n hR dX11_addTest_10 rfl ?_
  refine us_i2l hR dX11_addTest_11 ?_
  refine us_lconstC hR dX11_addTest_12 (c := 1) (by decide) ?_
  refine us_ldc2_w hR dX11_addTest_13 (v := 10) (by decide +kernel) ?_
  refine us_callS hR dX11_addTest_16 (y := 12002) (by decide +kernel) (by decide) (J := i12002) rfl rfl rfl rfl (rest := _) (Nat.le_of_ble_eq_true rfl) (Nat.zero_le _) (Nat.zero_le _) ?_
  refine sp_12002 hE hP  (fun hb18 => ?_)
  refine us_if_eq hR dX11_addTest_19 39 (by decide) (fun c19 => ?_) (fun c19 => ?_)
  · rw [if_pos c19] at ho
    exact h12086_J39 x0 x1 x2 x3 x4 x5 x6 (f_12082 x0 s) (f_12082 x0 s)  s I _ _ hP hF ho
  · rw [if_neg c19] at ho
    refine us_iload hR dX11_addTest_22 rfl ?_
    refine us_i2l hR dX11_addTest_24 ?_
    refine us_lconstC hR dX11_addTest_25 (c := 0) (by decide) ?_
    refine us_ldc2_w hR dX11_addTest_26 (v := 2) (by decide +kernel) ?_
    refine us_callS hR dX11_addTest_29 (y := 12002) (by decide +kernel) (by decide) (J := i12002) rfl rfl rfl rfl (rest := _) (Nat.le_of_ble_eq_true rfl) (Nat.zero_le _) (Nat.zero_le _) ?_
    refine sp_12002 hE hP  (fun hb20 => ?_)
    refine us_if_eq hR dX11_addTest_32 39 (by decide) (fun c21 => ?_) (fun c21 => ?_)
    · rw [if_pos c21] at ho
      exact h12086_J39 x0 x1 x2 x3 x4 x5 x6 (f_12082 x0 s) (f_12082 x0 s)  s I _ _ hP hF ho
    · rw [if_neg c21] at ho
      refine us_iconstC hR dX11_addTest_35 (c := 1) (by decide) ?_
      refine us_goto hR dX11_addTest_36 40 (by decide) ?_
      exact h12086_J40 x0 x1 x2 x3 x4 x5 x6 (f_12082 x0 s) 1 (f_12082 x0 s)  s I _ _ hP hF ho
def f_12097_J97  (k7 : Int32 → Int32 → Int32 → Int32 → Mx → Option Int32) (l1 : Int32) (l2 : Int32) (l3 : Int32) (l4 : Int32) (l5 : Int32) (k0 : Int32) (s : Mx) : Option Int32 :=
  k7 l1 l2 (k0 + 0) (l4 + 1) s
def f_12097_J59  (k7 : Int32 → Int32 → Int32 → Int32 → Mx → Option Int32) (l1 : Int32) (l2 : Int32) (l3 : Int32) (l4 : Int32) (l5 : Int32) (k0 : Int32) (k1 : Int32) (s : Mx) : Option Int32 :=
  gd (vi l5 32) <|
  if (mg s 44 l5) = 0 then
    gd (vi ((8 * l1) + l4) 240) <|
    if (mg s 51 ((8 * l1) + l4)) = 0 then
      f_12097_J97 k7 l1 (k1 + k0) l3 l4 l5 l3 s
    else
      gd (vi l5 32) <|
      k7 l1 (k1 + k0) (l3 + (mg s 40 l5)) (l4 + 1) s
  else
    f_12097_J97 k7 l1 (k1 + k0) l3 l4 l5 l3 s
def f_12097_L7  : Nat → Int32 → Int32 → Int32 → Int32 → Mx → Option Int32
  | 0, _, _, _, _, _ => none
  | n + 1, l1, l2, l3, l4, s =>
    gd (vi l1 30) <|
    gd (vi (mg s 47 l1) 4) <|
    if (mg s 39 (mg s 47 l1)) ≤ l4 then
      if l2 = 0 then
        some 0
      else
        gd (¬ (l2 : Int32) = 0) <|
        some ((100 * l3) / l2)
    else
      gd (vi l1 30) <|
      gd (vi ((8 * (mg s 47 l1)) + l4) 32) <|
      if (mg s 44 ((8 * (mg s 47 l1)) + l4)) = 0 then
        gd (vi ((8 * (mg s 47 l1)) + l4) 32) <|
        f_12097_J59 (f_12097_L7 n) l1 l2 l3 l4 ((8 * (mg s 47 l1)) + l4) (mg s 40 ((8 * (mg s 47 l1)) + l4)) l2 s
      else
        f_12097_J59 (f_12097_L7 n) l1 l2 l3 l4 ((8 * (mg s 47 l1)) + l4) 0 l2 s
def f_12097 (x0 : Int32) (s : Mx) : Option Int32 :=
  f_12097_L7 1000 x0 0 0 0 s
theorem sp_12097 {d : Nat} {G : ab_G} {ad : Nat → Nat} {I : Nat → Nat → Int32} {s : Mx} {P : ab_Pq} {X : ab_Xq} (hE : EM G ad) (hP : RepM I ad s) {x0 : Int32}  {o : Int32} (ho : f_12097 x0 s = some o) (h : P (gW G I) (some (.int o))) : ab_Gam (d + 1) 12097 [.ref (ad 0), .int x0] (gW G I) P X := by
  have h2 := h
  have hF : FrM ad I I := FrM_rfl
  unfold f_12097 at ho
  refine ab_enter (I := i12097) rfl (Nat.le_of_ble_eq_true rfl) (fun R hR => ?_)
  have h12097_L7 : ∀ (n : Nat) (l1 : Int32) (l2 : Int32) (l3 : Int32) (l4 : Int32) (w5 : Option Value) (bc bs : Nat) (ho : f_12097_L7 n l1 l2 l3 l4 s = some o), R 7 [some (.ref (ad 0)), some (.int l1), some (.int l2), some (.int l3), some (.int l4), w5] [] (gW G I) bc bs := by
    intro n
    induction n with
    | zero => intro l1 l2 l3 l4 w5 bc bs  ho; exact absurd ho (by intro hc; cases hc)
    | succ n7 ih7 =>
      have h12097_J97 : ∀ (l1 : Int32) (l2 : Int32) (l3 : Int32) (l4 : Int32) (l5 : Int32) (k0 : Int32)  (bc bs : Nat) (ho : f_12097_J97 (f_12097_L7 n7) l1 l2 l3 l4 l5 k0 s = some o), R 97 [some (.ref (ad 0)), some (.int l1), some (.int l2), some (.int l3), some (.int l4), some (.int l5)] [.int k0] (gW G I) bc bs := by
        intro l1 l2 l3 l4 l5 k0  bc bs  ho
        unfold f_12097_J97 at ho
        refine us_iconstC hR dX11_pointsOf_97 (c := 0) (by decide) ?_
        refine us_iadd hR dX11_pointsOf_98 ?_
        refine us_istore_n hR dX11_pointsOf_99 (Nat.le_of_ble_eq_true rfl) ?_
        refine us_iincC hR dX11_pointsOf_100 rfl (Nat.le_of_ble_eq_true rfl) (c := 1) (by decide) ?_
        refine us_goto hR dX11_pointsOf_103 7 (by decide) ?_
        exact ih7 l1 l2 (k0 + 0) (l4 + 1) _ _ _ ho
      have h12097_J59 : ∀ (l1 : Int32) (l2 : Int32) (l3 : Int32) (l4 : Int32) (l5 : Int32) (k0 : Int32) (k1 : Int32)  (bc bs : Nat) (ho : f_12097_J59 (f_12097_L7 n7) l1 l2 l3 l4 l5 k0 k1 s = some o), R 59 [some (.ref (ad 0)), some (.int l1), some (.int l2), some (.int l3), some (.int l4), some (.int l5)] [.int k0, .int k1] (gW G I) bc bs := by
        intro l1 l2 l3 l4 l5 k0 k1  bc bs  ho
        unfold f_12097_J59 at ho
        refine us_iadd hR dX11_pointsOf_59 ?_
        refine us_istore_n hR dX11_pointsOf_60 (Nat.le_of_ble_eq_true rfl) ?_
        refine us_iload_n hR dX11_pointsOf_61 rfl ?_
        refine us_aload_n hR dX11_pointsOf_62 rfl ?_
        refine us_getR hR dX11_pointsOf_63 fR_12_141 hE.2.1 rfl (em_r_73 hE) ?_
        refine us_iload hR dX11_pointsOf_66 rfl ?_
        have hg := gd_c ho
        rw [gd_e hg] at ho
        refine us_baloadM hE hP (em_q_73 hE) hR dX11_pointsOf_68 hg ?_
        refine us_if_ne hR dX11_pointsOf_69 97 (by decide) (fun c1 => ?_) (fun c1 => ?_)
        · rw [if_neg c1] at ho
          exact h12097_J97 l1 (k1 + k0) l3 l4 l5 l3  _ _ ho
        · rw [if_pos c1] at ho
          refine us_aload_n hR dX11_pointsOf_72 rfl ?_
          refine us_getR hR dX11_pointsOf_73 fR_12_162 hE.2.1 rfl (em_r_81 hE) ?_
          refine us_bipushC hR dX11_pointsOf_76 (c := 8) (by decide) ?_
          refine us_iload_n hR dX11_pointsOf_78 rfl ?_
          refine us_imul hR dX11_pointsOf_79 ?_
          refine us_iload hR dX11_pointsOf_80 rfl ?_
          refine us_iadd hR dX11_pointsOf_82 ?_
          have hg := gd_c ho
          rw [gd_e hg] at ho
          refine us_baloadM hE hP (em_q_81 hE) hR dX11_pointsOf_83 hg ?_
          refine us_if_eq hR dX11_pointsOf_84 97 (by decide) (fun c2 => ?_) (fun c2 => ?_)
          · rw [if_pos c2] at ho
            exact h12097_J97 l1 (k1 + k0) l3 l4 l5 l3  _ _ ho
          · rw [if_neg c2] at ho
            refine us_aload_n hR dX11_pointsOf_87 rfl ?_
            refine us_getR hR dX11_pointsOf_88 fR_12_129 hE.2.1 rfl (em_r_69 hE) ?_
            refine us_iload hR dX11_pointsOf_91 rfl ?_
            have hg := gd_c ho
            rw [gd_e hg] at ho
            refine us_ialoadM hE hP (em_q_69 hE) hR dX11_pointsOf_93 hg ?_
            refine us_goto hR dX11_pointsOf_94 98 (by decide) ?_
            refine us_iadd hR dX11_pointsOf_98 ?_
            refine us_istore_n hR dX11_pointsOf_99 (Nat.le_of_ble_eq_true rfl) ?_
            refine us_iincC hR dX11_pointsOf_100 rfl (Nat.le_of_ble_eq_true rfl) (c := 1) (by decide) ?_
            refine us_goto hR dX11_pointsOf_103 7 (by decide) ?_
            exact ih7 l1 (k1 + k0) (l3 + (mg s 40 l5)) (l4 + 1) _ _ _ ho
      intro l1 l2 l3 l4 w5 bc bs  ho
      rw [f_12097_L7] at ho
      refine us_iload hR dX11_pointsOf_7 rfl ?_
      refine us_aload_n hR dX11_pointsOf_9 rfl ?_
      refine us_getR hR dX11_pointsOf_10 fR_12_126 hE.2.1 rfl (em_r_68 hE) ?_
      refine us_aload_n hR dX11_pointsOf_13 rfl ?_
      refine us_getR hR dX11_pointsOf_14 fR_12_150 hE.2.1 rfl (em_r_77 hE) ?_
      refine us_iload_n hR dX11_pointsOf_17 rfl ?_
      have hg := gd_c ho
      rw [gd_e hg] at ho
      refine us_ialoadM hE hP (em_q_77 hE) hR dX11_pointsOf_18 hg ?_
      have hg := gd_c ho
      rw [gd_e hg] at ho
      refine us_ialoadM hE hP (em_q_68 hE) hR dX11_pointsOf_19 hg ?_
      refine us_icmp_ge hR dX11_pointsOf_20 106 (by decide) (fun c3 => ?_) (fun c3 => ?_)
      · rw [if_pos c3] at ho
        refine us_iload_n hR dX11_pointsOf_106 rfl ?_
        refine us_if_ne hR dX11_pointsOf_107 114 (by decide) (fun c4 => ?_) (fun c4 => ?_)
        · rw [if_neg c4] at ho
          refine us_bipushC hR dX11_pointsOf_114 (c := 100) (by decide) ?_
          refine us_iload_n hR dX11_pointsOf_116 rfl ?_
          refine us_imul hR dX11_pointsOf_117 ?_
          refine us_iload_n hR dX11_pointsOf_118 rfl ?_
          have hg := gd_c ho
          rw [gd_e hg] at ho
          refine us_idiv hR dX11_pointsOf_119 hg ?_
          refine us_iret hR dX11_pointsOf_120 rfl rfl ?_
          cases ho
          exact h2
        · rw [if_pos c4] at ho
          refine us_iconstC hR dX11_pointsOf_110 (c := 0) (by decide) ?_
          refine us_goto hR dX11_pointsOf_111 120 (by decide) ?_
          refine us_iret hR dX11_pointsOf_120 rfl rfl ?_
          cases ho
          exact h2
      · rw [if_neg c3] at ho
        refine us_bipushC hR dX11_pointsOf_23 (c := 8) (by decide) ?_
        refine us_aload_n hR dX11_pointsOf_25 rfl ?_
        refine us_getR hR dX11_pointsOf_26 fR_12_150 hE.2.1 rfl (em_r_77 hE) ?_
        refine us_iload_n hR dX11_pointsOf_29 rfl ?_
        have hg := gd_c ho
        rw [gd_e hg] at ho
        refine us_ialoadM hE hP (em_q_77 hE) hR dX11_pointsOf_30 hg ?_
        refine us_imul hR dX11_pointsOf_31 ?_
        refine us_iload hR dX11_pointsOf_32 rfl ?_
        refine us_iadd hR dX11_pointsOf_34 ?_
        refine us_istore hR dX11_pointsOf_35 (Nat.le_of_ble_eq_true rfl) ?_
        refine us_iload_n hR dX11_pointsOf_37 rfl ?_
        refine us_aload_n hR dX11_pointsOf_38 rfl ?_
        refine us_getR hR dX11_pointsOf_39 fR_12_141 hE.2.1 rfl (em_r_73 hE) ?_
        refine us_iload hR dX11_pointsOf_42 rfl ?_
        have hg := gd_c ho
        rw [gd_e hg] at ho
        refine us_baloadM hE hP (em_q_73 hE) hR dX11_pointsOf_44 hg ?_
        refine us_if_eq hR dX11_pointsOf_45 52 (by decide) (fun c5 => ?_) (fun c5 => ?_)
        · rw [if_pos c5] at ho
          refine us_aload_n hR dX11_pointsOf_52 rfl ?_
          refine us_getR hR dX11_pointsOf_53 fR_12_129 hE.2.1 rfl (em_r_69 hE) ?_
          refine us_iload hR dX11_pointsOf_56 rfl ?_
          have hg := gd_c ho
          rw [gd_e hg] at ho
          refine us_ialoadM hE hP (em_q_69 hE) hR dX11_pointsOf_58 hg ?_
          exact h12097_J59 l1 l2 l3 l4 ((8 * (mg s 47 l1)) + l4) (mg s 40 ((8 * (mg s 47 l1)) + l4)) l2  _ _ ho
        · rw [if_neg c5] at ho
          refine us_iconstC hR dX11_pointsOf_48 (c := 0) (by decide) ?_
          refine us_goto hR dX11_pointsOf_49 59 (by decide) ?_
          exact h12097_J59 l1 l2 l3 l4 ((8 * (mg s 47 l1)) + l4) 0 l2  _ _ ho
  refine us_iconstC hR dX11_pointsOf_0 (c := 0) (by decide) ?_
  refine us_istore_n hR dX11_pointsOf_1 (Nat.le_of_ble_eq_true rfl) ?_
  refine us_iconstC hR dX11_pointsOf_2 (c := 0) (by decide) ?_
  refine us_istore_n hR dX11_pointsOf_3 (Nat.le_of_ble_eq_true rfl) ?_
  refine us_iconstC hR dX11_pointsOf_4 (c := 0) (by decide) ?_
  refine us_istore hR dX11_pointsOf_5 (Nat.le_of_ble_eq_true rfl) ?_
  exact h12097_L7 _ x0 0 0 0 _ _ _ ho
def f_12098_J41  (l1 : Int32) (l2 : Int32) (k0 : Int32) (s : Mx) : Option Int32 :=
  gd (vi l1 30) <|
  if (mg s 49 l1) = 0 then
    bP (f_12097 l1 s) fun r2 =>
    gd (¬ (100 : Int32) = 0) <|
    some ((r2 * (100 - k0)) / 100)
  else
    some 0
def f_12098 (x0 : Int32) (s : Mx) : Option Int32 :=
  gd (vi x0 30) <|
  gd (vi x0 30) <|
  gd (vi (mg s 47 x0) 4) <|
  if ((mg s 48 x0) - (mg s 38 (mg s 47 x0))) ≤ 5 then
    if ((mg s 48 x0) - (mg s 38 (mg s 47 x0))) ≤ 0 then
      f_12098_J41 x0 ((mg s 48 x0) - (mg s 38 (mg s 47 x0))) 0 s
    else
      f_12098_J41 x0 ((mg s 48 x0) - (mg s 38 (mg s 47 x0))) (10 * ((mg s 48 x0) - (mg s 38 (mg s 47 x0)))) s
  else
    f_12098_J41 x0 ((mg s 48 x0) - (mg s 38 (mg s 47 x0))) 50 s
theorem sp_12098 {d : Nat} {G : ab_G} {ad : Nat → Nat} {I : Nat → Nat → Int32} {s : Mx} {P : ab_Pq} {X : ab_Xq} (hE : EM G ad) (hP : RepM I ad s) {x0 : Int32}  {o : Int32} (ho : f_12098 x0 s = some o) (h : P (gW G I) (some (.int o))) : ab_Gam (d + 2) 12098 [.ref (ad 0), .int x0] (gW G I) P X := by
  have h2 := h
  have hF : FrM ad I I := FrM_rfl
  unfold f_12098 at ho
  refine ab_enter (I := i12098) rfl (Nat.le_of_ble_eq_true rfl) (fun R hR => ?_)
  have h12098_J41 : ∀ (l1 : Int32) (l2 : Int32) (k0 : Int32)  (bc bs : Nat) (ho : f_12098_J41 l1 l2 k0 s = some o), R 41 [some (.ref (ad 0)), some (.int l1), some (.int l2), none] [.int k0] (gW G I) bc bs := by
    intro l1 l2 k0  bc bs  ho
    unfold f_12098_J41 at ho
    refine us_istore_n hR dX11_markOf_41 (Nat.le_of_ble_eq_true rfl) ?_
    refine us_aload_n hR dX11_markOf_42 rfl ?_
    refine us_getR hR dX11_markOf_43 fR_12_156 hE.2.1 rfl (em_r_79 hE) ?_
    refine us_iload_n hR dX11_markOf_46 rfl ?_
    have hg := gd_c ho
    rw [gd_e hg] at ho
    refine us_baloadM hE hP (em_q_79 hE) hR dX11_markOf_47 hg ?_
    refine us_if_eq hR dX11_markOf_48 55 (by decide) (fun c1 => ?_) (fun c1 => ?_)
    · rw [if_pos c1] at ho
      refine us_aload_n hR dX11_markOf_55 rfl ?_
      refine us_iload_n hR dX11_markOf_56 rfl ?_
      refine us_callV hR dX11_markOf_57 (y := 12097) (by decide +kernel) (by decide) (J := i12097) rfl rfl rfl rfl hE.2.1 rfl (Nat.le_of_ble_eq_true rfl) (Nat.zero_le _) (Nat.zero_le _) ?_
      obtain ⟨r2, hr2⟩ := bP_ex ho
      replace ho := bP_go ho hr2
      refine sp_12097 hE hP  hr2 ?_
      refine us_bipushC hR dX11_markOf_60 (c := 100) (by decide) ?_
      refine us_iload_n hR dX11_markOf_62 rfl ?_
      refine us_isub hR dX11_markOf_63 ?_
      refine us_imul hR dX11_markOf_64 ?_
      refine us_bipushC hR dX11_markOf_65 (c := 100) (by decide) ?_
      have hg := gd_c ho
      rw [gd_e hg] at ho
      refine us_idiv hR dX11_markOf_67 hg ?_
      refine us_iret hR dX11_markOf_68 rfl rfl ?_
      cases ho
      exact h2
    · rw [if_neg c1] at ho
      refine us_iconstC hR dX11_markOf_51 (c := 0) (by decide) ?_
      refine us_goto hR dX11_markOf_52 68 (by decide) ?_
      refine us_iret hR dX11_markOf_68 rfl rfl ?_
      cases ho
      exact h2
  refine us_aload_n hR dX11_markOf_0 rfl ?_
  refine us_getR hR dX11_markOf_1 fR_12_153 hE.2.1 rfl (em_r_78 hE) ?_
  refine us_iload_n hR dX11_markOf_4 rfl ?_
  have hg := gd_c ho
  rw [gd_e hg] at ho
  refine us_ialoadM hE hP (em_q_78 hE) hR dX11_markOf_5 hg ?_
  refine us_aload_n hR dX11_markOf_6 rfl ?_
  refine us_getR hR dX11_markOf_7 fR_12_123 hE.2.1 rfl (em_r_67 hE) ?_
  refine us_aload_n hR dX11_markOf_10 rfl ?_
  refine us_getR hR dX11_markOf_11 fR_12_150 hE.2.1 rfl (em_r_77 hE) ?_
  refine us_iload_n hR dX11_markOf_14 rfl ?_
  have hg := gd_c ho
  rw [gd_e hg] at ho
  refine us_ialoadM hE hP (em_q_77 hE) hR dX11_markOf_15 hg ?_
  have hg := gd_c ho
  rw [gd_e hg] at ho
  refine us_ialoadM hE hP (em_q_67 hE) hR dX11_markOf_16 hg ?_
  refine us_isub hR dX11_markOf_17 ?_
  refine us_istore_n hR dX11_markOf_18 (Nat.le_of_ble_eq_true rfl) ?_
  refine us_iload_n hR dX11_markOf_19 rfl ?_
  refine us_iconstC hR dX11_markOf_20 (c := 5) (by decide) ?_
  refine us_icmp_le hR dX11_markOf_21 29 (by decide) (fun c3 => ?_) (fun c3 => ?_)
  · rw [if_pos c3] at ho
    refine us_iload_n hR dX11_markOf_29 rfl ?_
    refine us_if_le hR dX11_markOf_30 40 (by decide) (fun c4 => ?_) (fun c4 => ?_)
    · rw [if_pos c4] at ho
      refine us_iconstC hR dX11_markOf_40 (c := 0) (by decide) ?_
      exact h12098_J41 x0 ((mg s 48 x0) - (mg s 38 (mg s 47 x0))) 0  _ _ ho
    · rw [if_neg c4] at ho
      refine us_bipushC hR dX11_markOf_33 (c := 10) (by decide) ?_
      refine us_iload_n hR dX11_markOf_35 rfl ?_
      refine us_imul hR dX11_markOf_36 ?_
      refine us_goto hR dX11_markOf_37 41 (by decide) ?_
      exact h12098_J41 x0 ((mg s 48 x0) - (mg s 38 (mg s 47 x0))) (10 * ((mg s 48 x0) - (mg s 38 (mg s 47 x0))))  _ _ ho
  · rw [if_neg c3] at ho
    refine us_bipushC hR dX11_markOf_24 (c := 50) (by decide) ?_
    refine us_goto hR dX11_markOf_26 41 (by decide) ?_
    exact h12098_J41 x0 ((mg s 48 x0) - (mg s 38 (mg s 47 x0))) 50  _ _ ho
def f_12087_J105  (k47 : Int32 → Int32 → Int32 → Int32 → Int32 → Mx → Option (Mx × Int32)) (l1 : Int32) (l2 : Int32) (l3 : Int32) (l4 : Int32) (l5 : Int32) (l6 : Int32) (k0 : Int32) (k1 : Int32) (s : Mx) : Option (Mx × Int32) :=
  gd (vi ((8 * l1) + l2) 32) <|
  bS (ms s 44 ((8 * l1) + l2) (vp_nar .boolean 0)) fun s1 =>
  k47 l1 l2 l3 (k1 + k0) (l5 + 1) s1
def f_12087_L47  : Nat → Int32 → Int32 → Int32 → Int32 → Int32 → Mx → Option (Mx × Int32)
  | 0, _, _, _, _, _, _ => none
  | n + 1, l1, l2, l3, l4, l5, s =>
    if (mf s 74) ≤ l5 then
      gd (vi ((8 * l1) + l2) 32) <|
      bS (ms s 44 ((8 * l1) + l2) (vp_nar .boolean 1)) fun s3 =>
      some (s3, l4)
    else
      gd (vi l5 30) <|
      if (mg s 47 l5) = l1 then
        bP (f_12098 l5 s) fun r5 =>
        gd (vi ((8 * l1) + l2) 32) <|
        bS (ms s 44 ((8 * l1) + l2) (vp_nar .boolean 1)) fun s6 =>
        bP (f_12098 l5 s6) fun r7 =>
        if r7 = r5 then
          f_12087_J105 (f_12087_L47 n) l1 l2 l3 l4 l5 r5 0 l4 s6
        else
          f_12087_J105 (f_12087_L47 n) l1 l2 l3 l4 l5 r5 1 l4 s6
      else
        f_12087_L47 n l1 l2 l3 l4 (l5 + 1) s
def f_12087_J32  (l1 : Int32) (l2 : Int32) (l3 : Int32) (k0 : Int32) (k1 : Int32) (s : Mx) : Option (Mx × Int32) :=
  bT (f_12003 k1 k0 1 s) fun s9 r9 =>
  if r9 = 0 then
    some (s9, 0)
  else
    f_12087_L47 1000 l1 l2 l3 0 0 s9
def f_12087_J31  (l1 : Int32) (l2 : Int32) (l3 : Int32) (k0 : Int32) (s : Mx) : Option (Mx × Int32) :=
  f_12087_J32 l1 l2 l3 0 k0 s
def f_12087 (x0 : Int32) (x1 : Int32) (s : Mx) : Option (Mx × Int32) :=
  bP (f_12083 x0 x1 s) fun r11 =>
  if r11 = 0 then
    f_12087_J31 x0 x1 r11 r11 s
  else
    gd (vi ((8 * x0) + x1) 32) <|
    if (mg s 44 ((8 * x0) + x1)) = 0 then
      f_12087_J32 x0 x1 r11 1 r11 s
    else
      f_12087_J31 x0 x1 r11 r11 s
theorem sp_12087 {d : Nat} {G : ab_G} {ad : Nat → Nat} {I : Nat → Nat → Int32} {s : Mx} {P : ab_Pq} {X : ab_Xq} (hE : EM G ad) (hP : RepM I ad s) {x0 : Int32} {x1 : Int32}  {o : Mx × Int32} (ho : f_12087 x0 x1 s = some o) (h : ∀ I1, RepM I1 ad o.1 → FrM ad I I1 → P (gW G I1) (some (.int o.2))) : ab_Gam (d + 4) 12087 [.ref (ad 0), .int x0, .int x1] (gW G I) P X := by
  have h2 := h
  have hF : FrM ad I I := FrM_rfl
  unfold f_12087 at ho
  refine ab_enter (I := i12087) rfl (Nat.le_of_ble_eq_true rfl) (fun R hR => ?_)
  have h12087_L47 : ∀ (n : Nat) (l1 : Int32) (l2 : Int32) (l3 : Int32) (l4 : Int32) (l5 : Int32) (w6 : Option Value) (s : Mx) (Ia : Nat → Nat → Int32) (bc bs : Nat) (hPa : RepM Ia ad s) (hFa : FrM ad I Ia) (ho : f_12087_L47 n l1 l2 l3 l4 l5 s = some o), R 47 [some (.ref (ad 0)), some (.int l1), some (.int l2), some (.int l3), some (.int l4), some (.int l5), w6] [] (gW G Ia) bc bs := by
    intro n
    induction n with
    | zero => intro l1 l2 l3 l4 l5 w6 s Ia bc bs  hPa hFa ho; exact absurd ho (by intro hc; cases hc)
    | succ n47 ih47 =>
      have h12087_J105 : ∀ (l1 : Int32) (l2 : Int32) (l3 : Int32) (l4 : Int32) (l5 : Int32) (l6 : Int32) (k0 : Int32) (k1 : Int32)  (s : Mx) (Ia : Nat → Nat → Int32) (bc bs : Nat) (hPa : RepM Ia ad s) (hFa : FrM ad I Ia) (ho : f_12087_J105 (f_12087_L47 n47) l1 l2 l3 l4 l5 l6 k0 k1 s = some o), R 105 [some (.ref (ad 0)), some (.int l1), some (.int l2), some (.int l3), some (.int l4), some (.int l5), some (.int l6)] [.int k0, .int k1] (gW G Ia) bc bs := by
        intro l1 l2 l3 l4 l5 l6 k0 k1  s Ia bc bs  hPa hFa ho
        unfold f_12087_J105 at ho
        refine us_iadd hR dX11_withdraw_105 ?_
        refine us_istore hR dX11_withdraw_106 (Nat.le_of_ble_eq_true rfl) ?_
        refine us_aload_n hR dX11_withdraw_108 rfl ?_
        refine us_getR hR dX11_withdraw_109 fR_12_141 hE.2.1 rfl (em_r_73 hE) ?_
        refine us_bipushC hR dX11_withdraw_112 (c := 8) (by decide) ?_
        refine us_iload_n hR dX11_withdraw_114 rfl ?_
        refine us_imul hR dX11_withdraw_115 ?_
        refine us_iload_n hR dX11_withdraw_116 rfl ?_
        refine us_iadd hR dX11_withdraw_117 ?_
        refine us_iconstC hR dX11_withdraw_118 (c := 0) (by decide) ?_
        have hg := gd_c ho
        rw [gd_e hg] at ho
        refine us_bastoreM hE hPa (em_q_73 hE) hR dX11_withdraw_119 hg (fun I1 s1 hs1 hP1 hF1 => ?_)
        rw [← hs1, bS_eq] at ho
        have hF1 := hFa.tr hF1
        refine us_iincC hR dX11_withdraw_120 rfl (Nat.le_of_ble_eq_true rfl) (c := 1) (by decide) ?_
        refine us_goto hR dX11_withdraw_123 47 (by decide) ?_
        exact ih47 l1 l2 l3 (k1 + k0) (l5 + 1) _ s1 I1 _ _ hP1 hF1 ho
      intro l1 l2 l3 l4 l5 w6 s Ia bc bs  hPa hFa ho
      rw [f_12087_L47] at ho
      refine us_iload hR dX11_withdraw_47 rfl ?_
      refine us_aload_n hR dX11_withdraw_49 rfl ?_
      refine us_getIx hR dX11_withdraw_50 fR_12_512 hE.2.1 rfl (RepM_f hPa 74) ?_
      refine us_icmp_ge hR dX11_withdraw_53 126 (by decide) (fun c2 => ?_) (fun c2 => ?_)
      · rw [if_pos c2] at ho
        refine us_aload_n hR dX11_withdraw_126 rfl ?_
        refine us_getR hR dX11_withdraw_127 fR_12_141 hE.2.1 rfl (em_r_73 hE) ?_
        refine us_bipushC hR dX11_withdraw_130 (c := 8) (by decide) ?_
        refine us_iload_n hR dX11_withdraw_132 rfl ?_
        refine us_imul hR dX11_withdraw_133 ?_
        refine us_iload_n hR dX11_withdraw_134 rfl ?_
        refine us_iadd hR dX11_withdraw_135 ?_
        refine us_iconstC hR dX11_withdraw_136 (c := 1) (by decide) ?_
        have hg := gd_c ho
        rw [gd_e hg] at ho
        refine us_bastoreM hE hPa (em_q_73 hE) hR dX11_withdraw_137 hg (fun I3 s3 hs3 hP3 hF3 => ?_)
        rw [← hs3, bS_eq] at ho
        have hF3 := hFa.tr hF3
        refine us_iload hR dX11_withdraw_138 rfl ?_
        refine us_iret hR dX11_withdraw_140 rfl rfl ?_
        cases ho
        exact h2 _ hP3 hF3
      · rw [if_neg c2] at ho
        refine us_aload_n hR dX11_withdraw_56 rfl ?_
        refine us_getR hR dX11_withdraw_57 fR_12_150 hE.2.1 rfl (em_r_77 hE) ?_
        refine us_iload hR dX11_withdraw_60 rfl ?_
        have hg := gd_c ho
        rw [gd_e hg] at ho
        refine us_ialoadM hE hPa (em_q_77 hE) hR dX11_withdraw_62 hg ?_
        refine us_iload_n hR dX11_withdraw_63 rfl ?_
        refine us_icmp_ne hR dX11_withdraw_64 120 (by decide) (fun c4 => ?_) (fun c4 => ?_)
        · rw [if_neg c4] at ho
          refine us_iincC hR dX11_withdraw_120 rfl (Nat.le_of_ble_eq_true rfl) (c := 1) (by decide) ?_
          refine us_goto hR dX11_withdraw_123 47 (by decide) ?_
          exact ih47 l1 l2 l3 l4 (l5 + 1) _ s Ia _ _ hPa hFa ho
        · rw [if_pos c4] at ho
          refine us_aload_n hR dX11_withdraw_67 rfl ?_
          refine us_iload hR dX11_withdraw_68 rfl ?_
          refine us_callV hR dX11_withdraw_70 (y := 12098) (by decide +kernel) (by decide) (J := i12098) rfl rfl rfl rfl hE.2.1 rfl (Nat.le_of_ble_eq_true rfl) (Nat.zero_le _) (Nat.zero_le _) ?_
          obtain ⟨r5, hr5⟩ := bP_ex ho
          replace ho := bP_go ho hr5
          refine sp_12098 hE hPa  hr5 ?_
          refine us_istore hR dX11_withdraw_73 (Nat.le_of_ble_eq_true rfl) ?_
          refine us_aload_n hR dX11_withdraw_75 rfl ?_
          refine us_getR hR dX11_withdraw_76 fR_12_141 hE.2.1 rfl (em_r_73 hE) ?_
          refine us_bipushC hR dX11_withdraw_79 (c := 8) (by decide) ?_
          refine us_iload_n hR dX11_withdraw_81 rfl ?_
          refine us_imul hR dX11_withdraw_82 ?_
          refine us_iload_n hR dX11_withdraw_83 rfl ?_
          refine us_iadd hR dX11_withdraw_84 ?_
          refine us_iconstC hR dX11_withdraw_85 (c := 1) (by decide) ?_
          have hg := gd_c ho
          rw [gd_e hg] at ho
          refine us_bastoreM hE hPa (em_q_73 hE) hR dX11_withdraw_86 hg (fun I6 s6 hs6 hP6 hF6 => ?_)
          rw [← hs6, bS_eq] at ho
          have hF6 := hFa.tr hF6
          refine us_iload hR dX11_withdraw_87 rfl ?_
          refine us_aload_n hR dX11_withdraw_89 rfl ?_
          refine us_iload hR dX11_withdraw_90 rfl ?_
          refine us_callV hR dX11_withdraw_92 (y := 12098) (by decide +kernel) (by decide) (J := i12098) rfl rfl rfl rfl hE.2.1 rfl (Nat.le_of_ble_eq_true rfl) (Nat.zero_le _) (Nat.zero_le _) ?_
          obtain ⟨r7, hr7⟩ := bP_ex ho
          replace ho := bP_go ho hr7
          refine sp_12098 hE hP6  hr7 ?_
          refine us_iload hR dX11_withdraw_95 rfl ?_
          refine us_icmp_ne hR dX11_withdraw_97 104 (by decide) (fun c8 => ?_) (fun c8 => ?_)
          · rw [if_neg c8] at ho
            refine us_iconstC hR dX11_withdraw_104 (c := 1) (by decide) ?_
            exact h12087_J105 l1 l2 l3 l4 l5 r5 1 l4  s6 I6 _ _ hP6 hF6 ho
          · rw [if_pos c8] at ho
            refine us_iconstC hR dX11_withdraw_100 (c := 0) (by decide) ?_
            refine us_goto hR dX11_withdraw_101 105 (by decide) ?_
            exact h12087_J105 l1 l2 l3 l4 l5 r5 0 l4  s6 I6 _ _ hP6 hF6 ho
  have h12087_J32 : ∀ (l1 : Int32) (l2 : Int32) (l3 : Int32) (k0 : Int32) (k1 : Int32)  (s : Mx) (Ia : Nat → Nat → Int32) (bc bs : Nat) (hPa : RepM Ia ad s) (hFa : FrM ad I Ia) (ho : f_12087_J32 l1 l2 l3 k0 k1 s = some o), R 32 [some (.ref (ad 0)), some (.int l1), some (.int l2), some (.int l3), none, none, none] [.int k0, .int k1, .ref (ad 0)] (gW G Ia) bc bs := by
    intro l1 l2 l3 k0 k1  s Ia bc bs  hPa hFa ho
    unfold f_12087_J32 at ho
    refine us_iconstC hR dX11_withdraw_32 (c := 1) (by decide) ?_
    refine us_callV hR dX11_withdraw_33 (y := 12003) (by decide +kernel) (by decide) (J := i12003) rfl rfl rfl rfl hE.2.1 rfl (Nat.le_of_ble_eq_true rfl) (Nat.zero_le _) (Nat.zero_le _) ?_
    refine sp_12003 hE hPa  (fun I9 q9 hs9 hb9 hP9 hF9 => ?_)
    rw [← hs9] at ho
    obtain ⟨s9, r9⟩ := q9
    rw [bT_eq] at ho
    have hF9 := hFa.tr hF9
    refine us_if_ne hR dX11_withdraw_36 41 (by decide) (fun c10 => ?_) (fun c10 => ?_)
    · rw [if_neg c10] at ho
      refine us_iconstC hR dX11_withdraw_41 (c := 0) (by decide) ?_
      refine us_istore hR dX11_withdraw_42 (Nat.le_of_ble_eq_true rfl) ?_
      refine us_iconstC hR dX11_withdraw_44 (c := 0) (by decide) ?_
      refine us_istore hR dX11_withdraw_45 (Nat.le_of_ble_eq_true rfl) ?_
      exact h12087_L47 _ l1 l2 l3 0 0 _ s9 I9 _ _ hP9 hF9 ho
    · rw [if_pos c10] at ho
      refine us_iconstC hR dX11_withdraw_39 (c := 0) (by decide) ?_
      refine us_iret hR dX11_withdraw_40 rfl rfl ?_
      cases ho
      exact h2 _ hP9 hF9
  have h12087_J31 : ∀ (l1 : Int32) (l2 : Int32) (l3 : Int32) (k0 : Int32)  (s : Mx) (Ia : Nat → Nat → Int32) (bc bs : Nat) (hPa : RepM Ia ad s) (hFa : FrM ad I Ia) (ho : f_12087_J31 l1 l2 l3 k0 s = some o), R 31 [some (.ref (ad 0)), some (.int l1), some (.int l2), some (.int l3), none, none, none] [.int k0, .ref (ad 0)] (gW G Ia) bc bs := by
    intro l1 l2 l3 k0  s Ia bc bs  hPa hFa ho
    unfold f_12087_J31 at ho
    refine us_iconstC hR dX11_withdraw_31 (c := 0) (by decide) ?_
    exact h12087_J32 l1 l2 l3 0 k0  s Ia _ _ hPa hFa ho
  refine us_aload_n hR dX11_withdraw_0 rfl ?_
  refine us_iload_n hR dX11_withdraw_1 rfl ?_
  refine us_iload_n hR dX11_withdraw_2 rfl ?_
  refine us_callV hR dX11_withdraw_3 (y := 12083) (by decide +kernel) (by decide) (J := i12083) rfl rfl rfl rfl hE.2.1 rfl (Nat.le_of_ble_eq_true rfl) (Nat.zero_le _) (Nat.zero_le _) ?_
  obtain ⟨r11, hr11⟩ := bP_ex ho
  replace ho := bP_go ho hr11
  refine sp_12083 hE hP  hr11 (fun hb11 => ?_)
  refine us_istore_n hR dX11_withdraw_6 (Nat.le_of_ble_eq_true rfl) ?_
  refine us_aload_n hR dX11_withdraw_7 rfl ?_
  refine us_iload_n hR dX11_withdraw_8 rfl ?_
  refine us_iload_n hR dX11_withdraw_9 rfl ?_
  refine us_if_eq hR dX11_withdraw_10 31 (by decide) (fun c12 => ?_) (fun c12 => ?_)
  · rw [if_pos c12] at ho
    exact h12087_J31 x0 x1 r11 r11  s I _ _ hP hF ho
  · rw [if_neg c12] at ho
    refine us_aload_n hR dX11_withdraw_13 rfl ?_
    refine us_getR hR dX11_withdraw_14 fR_12_141 hE.2.1 rfl (em_r_73 hE) ?_
    refine us_bipushC hR dX11_withdraw_17 (c := 8) (by decide) ?_
    refine us_iload_n hR dX11_withdraw_19 rfl ?_
    refine us_imul hR dX11_withdraw_20 ?_
    refine us_iload_n hR dX11_withdraw_21 rfl ?_
    refine us_iadd hR dX11_withdraw_22 ?_
    have hg := gd_c ho
    rw [gd_e hg] at ho
    refine us_baloadM hE hP (em_q_73 hE) hR dX11_withdraw_23 hg ?_
    refine us_if_ne hR dX11_withdraw_24 31 (by decide) (fun c13 => ?_) (fun c13 => ?_)
    · rw [if_neg c13] at ho
      exact h12087_J31 x0 x1 r11 r11  s I _ _ hP hF ho
    · rw [if_pos c13] at ho
      refine us_iconstC hR dX11_withdraw_27 (c := 1) (by decide) ?_
      refine us_goto hR dX11_withdraw_28 32 (by decide) ?_
      exact h12087_J32 x0 x1 r11 1 r11  s I _ _ hP hF ho
def f_12088_J33  (l1 : Int32) (l2 : Int32) (k0 : Int32) (k1 : Int32) (s : Mx) : Mx × Int32 :=
  bT (f_12003 k1 k0 1 s) fun s1 r1 =>
  if r1 = 0 then
    (s1, 0)
  else
    bS (mp s1 64 ((mf s1 64) + l1)) fun s3 =>
    (s3, (mf s3 64))
def f_12088_J32  (l1 : Int32) (l2 : Int32) (k0 : Int32) (s : Mx) : Mx × Int32 :=
  f_12088_J33 l1 l2 0 k0 s
def f_12088 (x0 : Int32) (s : Mx) : Mx × Int32 :=
  if (f_12002 x0.toInt64 1 100 s) = 0 then
    f_12088_J32 x0 (f_12002 x0.toInt64 1 100 s) (f_12002 x0.toInt64 1 100 s) s
  else
    if 1000 < ((mf s 64) + x0) then
      f_12088_J32 x0 (f_12002 x0.toInt64 1 100 s) (f_12002 x0.toInt64 1 100 s) s
    else
      f_12088_J33 x0 (f_12002 x0.toInt64 1 100 s) 1 (f_12002 x0.toInt64 1 100 s) s
theorem sp_12088 {d : Nat} {G : ab_G} {ad : Nat → Nat} {I : Nat → Nat → Int32} {s : Mx} {P : ab_Pq} {X : ab_Xq} (hE : EM G ad) (hP : RepM I ad s) {x0 : Int32}  (h : ∀ I1 o, o = f_12088 x0 s → RepM I1 ad o.1 → FrM ad I I1 → P (gW G I1) (some (.int o.2))) : ab_Gam (d + 2) 12088 [.ref (ad 0), .int x0] (gW G I) P X := by
  obtain ⟨o, ho⟩ : ∃ o, o = f_12088 x0 s := ⟨_, rfl⟩
  have h2 := fun I1 => h I1 o ho
  have hF : FrM ad I I := FrM_rfl
  unfold f_12088 at ho
  refine ab_enter (I := i12088) rfl (Nat.le_of_ble_eq_true rfl) (fun R hR => ?_)
  have h12088_J33 : ∀ (l1 : Int32) (l2 : Int32) (k0 : Int32) (k1 : Int32)  (s : Mx) (Ia : Nat → Nat → Int32) (bc bs : Nat) (hPa : RepM Ia ad s) (hFa : FrM ad I Ia) (ho : o = f_12088_J33 l1 l2 k0 k1 s), R 33 [some (.ref (ad 0)), some (.int l1), some (.int l2)] [.int k0, .int k1, .ref (ad 0)] (gW G Ia) bc bs := by
    intro l1 l2 k0 k1  s Ia bc bs  hPa hFa ho
    unfold f_12088_J33 at ho
    refine us_iconstC hR dX11_pass_33 (c := 1) (by decide) ?_
    refine us_callV hR dX11_pass_34 (y := 12003) (by decide +kernel) (by decide) (J := i12003) rfl rfl rfl rfl hE.2.1 rfl (Nat.le_of_ble_eq_true rfl) (Nat.zero_le _) (Nat.zero_le _) ?_
    refine sp_12003 hE hPa  (fun I1 q1 hs1 hb1 hP1 hF1 => ?_)
    rw [← hs1] at ho
    obtain ⟨s1, r1⟩ := q1
    rw [bT_eq] at ho
    have hF1 := hFa.tr hF1
    refine us_if_ne hR dX11_pass_37 42 (by decide) (fun c2 => ?_) (fun c2 => ?_)
    · rw [if_neg c2] at ho
      refine us_aload_n hR dX11_pass_42 rfl ?_
      refine us_dup hR dX11_pass_43 rfl ?_
      refine us_getIx hR dX11_pass_44 fR_12_505 hE.2.1 rfl (RepM_f hP1 64) ?_
      refine us_iload_n hR dX11_pass_47 rfl ?_
      refine us_iadd hR dX11_pass_48 ?_
      refine us_putIM hE hP1 64 hR dX11_pass_49 fR_12_505 (Or.inl rfl) rfl rfl (fun I3 s3 hs3 hP3 hF3 => ?_)
      rw [← hs3, bS_eq] at ho
      have hF3 := hF1.tr hF3
      refine us_aload_n hR dX11_pass_52 rfl ?_
      refine us_getIx hR dX11_pass_53 fR_12_505 hE.2.1 rfl (RepM_f hP3 64) ?_
      refine us_iret hR dX11_pass_56 rfl rfl ?_
      subst ho
      exact h2 _ hP3 hF3
    · rw [if_pos c2] at ho
      refine us_iconstC hR dX11_pass_40 (c := 0) (by decide) ?_
      refine us_iret hR dX11_pass_41 rfl rfl ?_
      subst ho
      exact h2 _ hP1 hF1
  have h12088_J32 : ∀ (l1 : Int32) (l2 : Int32) (k0 : Int32)  (s : Mx) (Ia : Nat → Nat → Int32) (bc bs : Nat) (hPa : RepM Ia ad s) (hFa : FrM ad I Ia) (ho : o = f_12088_J32 l1 l2 k0 s), R 32 [some (.ref (ad 0)), some (.int l1), some (.int l2)] [.int k0, .ref (ad 0)] (gW G Ia) bc bs := by
    intro l1 l2 k0  s Ia bc bs  hPa hFa ho
    unfold f_12088_J32 at ho
    refine us_iconstC hR dX11_pass_32 (c := 0) (by decide) ?_
    exact h12088_J33 l1 l2 0 k0  s Ia _ _ hPa hFa ho
  refine us_iload_n hR dX11_pass_0 rfl ?_
  refine us_i2l hR dX11_pass_1 ?_
  refine us_lconstC hR dX11_pass_2 (c := 1) (by decide) ?_
  refine us_ldc2_w hR dX11_pass_3 (v := 100) (by decide +kernel) ?_
  refine us_callS hR dX11_pass_6 (y := 12002) (by decide +kernel) (by decide) (J := i12002) rfl rfl rfl rfl (rest := _) (Nat.le_of_ble_eq_true rfl) (Nat.zero_le _) (Nat.zero_le _) ?_
  refine sp_12002 hE hP  (fun hb4 => ?_)
  refine us_istore_n hR dX11_pass_9 (Nat.le_of_ble_eq_true rfl) ?_
  refine us_aload_n hR dX11_pass_10 rfl ?_
  refine us_iload_n hR dX11_pass_11 rfl ?_
  refine us_iload_n hR dX11_pass_12 rfl ?_
  refine us_if_eq hR dX11_pass_13 32 (by decide) (fun c5 => ?_) (fun c5 => ?_)
  · rw [if_pos c5] at ho
    exact h12088_J32 x0 (f_12002 x0.toInt64 1 100 s) (f_12002 x0.toInt64 1 100 s)  s I _ _ hP hF ho
  · rw [if_neg c5] at ho
    refine us_aload_n hR dX11_pass_16 rfl ?_
    refine us_getIx hR dX11_pass_17 fR_12_505 hE.2.1 rfl (RepM_f hP 64) ?_
    refine us_iload_n hR dX11_pass_20 rfl ?_
    refine us_iadd hR dX11_pass_21 ?_
    refine us_sipushC hR dX11_pass_22 (c := 1000) (by decide) ?_
    refine us_icmp_gt hR dX11_pass_25 32 (by decide) (fun c6 => ?_) (fun c6 => ?_)
    · rw [if_pos c6] at ho
      exact h12088_J32 x0 (f_12002 x0.toInt64 1 100 s) (f_12002 x0.toInt64 1 100 s)  s I _ _ hP hF ho
    · rw [if_neg c6] at ho
      refine us_iconstC hR dX11_pass_28 (c := 1) (by decide) ?_
      refine us_goto hR dX11_pass_29 33 (by decide) ?_
      exact h12088_J33 x0 (f_12002 x0.toInt64 1 100 s) 1 (f_12002 x0.toInt64 1 100 s)  s I _ _ hP hF ho
def f_12089  (s : Mx) : Mx × Int32 :=
  bT (f_12004 (mf s 64) s) fun s1 r1 =>
  (s1, r1)
theorem sp_12089 {d : Nat} {G : ab_G} {ad : Nat → Nat} {I : Nat → Nat → Int32} {s : Mx} {P : ab_Pq} {X : ab_Xq} (hE : EM G ad) (hP : RepM I ad s)   (h : ∀ I1 o, o = f_12089 s → RepM I1 ad o.1 → FrM ad I I1 → P (gW G I1) (some (.int o.2))) : ab_Gam (d + 2) 12089 [.ref (ad 0)] (gW G I) P X := by
  obtain ⟨o, ho⟩ : ∃ o, o = f_12089 s := ⟨_, rfl⟩
  have h2 := fun I1 => h I1 o ho
  have hF : FrM ad I I := FrM_rfl
  unfold f_12089 at ho
  refine ab_enter (I := i12089) rfl (Nat.le_of_ble_eq_true rfl) (fun R hR => ?_)
  refine us_aload_n hR dX11_today_0 rfl ?_
  refine us_aload_n hR dX11_today_1 rfl ?_
  refine us_getIx hR dX11_today_2 fR_12_505 hE.2.1 rfl (RepM_f hP 64) ?_
  refine us_callV hR dX11_today_5 (y := 12004) (by decide +kernel) (by decide) (J := i12004) rfl rfl rfl rfl hE.2.1 rfl (Nat.le_of_ble_eq_true rfl) (Nat.zero_le _) (Nat.zero_le _) ?_
  refine sp_12004 hE hP  (fun I1 q1 hs1 hP1 hF1 => ?_)
  rw [← hs1] at ho
  obtain ⟨s1, r1⟩ := q1
  rw [bT_eq] at ho
  have hF1 := hF.tr hF1
  refine us_iret hR dX11_today_8 rfl rfl ?_
  subst ho
  exact h2 _ hP1 hF1
def f_12090 (x0 : Int32) (s : Mx) : Int32 :=
  (f_12002 x0.toInt64 0 (((mf s 74) - 1).toInt64) s)
theorem sp_12090 {d : Nat} {G : ab_G} {ad : Nat → Nat} {I : Nat → Nat → Int32} {s : Mx} {P : ab_Pq} {X : ab_Xq} (hE : EM G ad) (hP : RepM I ad s) {x0 : Int32}  (h : (f_12090 x0 s = 0 ∨ f_12090 x0 s = 1) → P (gW G I) (some (.int (f_12090 x0 s)))) : ab_Gam (d + 2) 12090 [.ref (ad 0), .int x0] (gW G I) P X := by
  obtain ⟨o, ho⟩ : ∃ o, o = f_12090 x0 s := ⟨_, rfl⟩
  rw [← ho] at h
  have h2 := h
  have hF : FrM ad I I := FrM_rfl
  unfold f_12090 at ho
  refine ab_enter (I := i12090) rfl (Nat.le_of_ble_eq_true rfl) (fun R hR => ?_)
  refine us_iload_n hR dX11_isAnswer_0 rfl ?_
  refine us_i2l hR dX11_isAnswer_1 ?_
  refine us_lconstC hR dX11_isAnswer_2 (c := 0) (by decide) ?_
  refine us_aload_n hR dX11_isAnswer_3 rfl ?_
  refine us_getIx hR dX11_isAnswer_4 fR_12_512 hE.2.1 rfl (RepM_f hP 74) ?_
  refine us_iconstC hR dX11_isAnswer_7 (c := 1) (by decide) ?_
  refine us_isub hR dX11_isAnswer_8 ?_
  refine us_i2l hR dX11_isAnswer_9 ?_
  refine us_callS hR dX11_isAnswer_10 (y := 12002) (by decide +kernel) (by decide) (J := i12002) rfl rfl rfl rfl (rest := _) (Nat.le_of_ble_eq_true rfl) (Nat.zero_le _) (Nat.zero_le _) ?_
  refine sp_12002 hE hP  (fun hb1 => ?_)
  refine us_iret hR dX11_isAnswer_13 rfl (nar01 hb1) ?_
  subst ho
  exact h2 hb1 
def f_12091 (x0 : Int32) (s : Mx) : Int32 :=
  (f_12002 x0.toInt64 0 5 s)
theorem sp_12091 {d : Nat} {G : ab_G} {ad : Nat → Nat} {I : Nat → Nat → Int32} {s : Mx} {P : ab_Pq} {X : ab_Xq} (hE : EM G ad) (hP : RepM I ad s) {x0 : Int32}  (h : (f_12091 x0 s = 0 ∨ f_12091 x0 s = 1) → P (gW G I) (some (.int (f_12091 x0 s)))) : ab_Gam (d + 2) 12091 [.int x0] (gW G I) P X := by
  obtain ⟨o, ho⟩ : ∃ o, o = f_12091 x0 s := ⟨_, rfl⟩
  rw [← ho] at h
  have h2 := h
  have hF : FrM ad I I := FrM_rfl
  unfold f_12091 at ho
  refine ab_enter (I := i12091) rfl (Nat.le_of_ble_eq_true rfl) (fun R hR => ?_)
  refine us_iload_n hR dX11_isPupil_0 rfl ?_
  refine us_i2l hR dX11_isPupil_1 ?_
  refine us_lconstC hR dX11_isPupil_2 (c := 0) (by decide) ?_
  refine us_ldc2_w hR dX11_isPupil_3 (v := 5) (by decide +kernel) ?_
  refine us_callS hR dX11_isPupil_6 (y := 12002) (by decide +kernel) (by decide) (J := i12002) rfl rfl rfl rfl (rest := _) (Nat.le_of_ble_eq_true rfl) (Nat.zero_le _) (Nat.zero_le _) ?_
  refine sp_12002 hE hP  (fun hb1 => ?_)
  refine us_iret hR dX11_isPupil_9 rfl (nar01 hb1) ?_
  subst ho
  exact h2 hb1 
def f_12092_L150  : Nat → Int32 → Int32 → Int32 → Mx → Option (Mx × Int32)
  | 0, _, _, _, _ => none
  | n + 1, l1, l2, l3, s =>
    gd (vi l2 4) <|
    if (mg s 39 l2) ≤ l3 then
      bS (mp s 74 ((mf s 74) + 1)) fun s2 =>
      some (s2, ((mf s2 74) - 1))
    else
      bOv (f_12085 (mf s 74) l3 s) fun s3 =>
      f_12092_L150 n l1 l2 (l3 + 1) s3
def f_12092_L70  : Nat → Int32 → Int32 → Int32 → Mx → Option (Mx × Int32)
  | 0, _, _, _, _ => none
  | n + 1, l1, l2, l3, s =>
    if (mf s 0) ≤ l3 then
      gd (vi (mf s 74) 30) <|
      bS (ms s 46 (mf s 74) l1) fun s5 =>
      gd (vi (mf s5 74) 30) <|
      bS (ms s5 47 (mf s5 74) l2) fun s6 =>
      gd (vi (mf s6 74) 30) <|
      bS (ms s6 48 (mf s6 74) (mf s6 64)) fun s7 =>
      gd (vi (mf s7 74) 30) <|
      bS (ms s7 49 (mf s7 74) (vp_nar .boolean 0)) fun s8 =>
      f_12092_L150 1000 l1 l2 0 s8
    else
      gd (vi l3 300) <|
      gd (vi ((300 * (mf s 74)) + l3) 9000) <|
      bS (ms s 2 ((300 * (mf s 74)) + l3) (vp_nar .char (mg s 1 l3))) fun s9 =>
      f_12092_L70 n l1 l2 (l3 + 1) s9
def f_12092_J46  (l1 : Int32) (l2 : Int32) (k0 : Int32) (k1 : Int32) (s : Mx) : Option (Mx × Int32) :=
  bT (f_12003 k1 k0 1 s) fun s10 r10 =>
  if r10 = 0 then
    some (s10, 0)
  else
    gd (vi (mf s10 74) 30) <|
    bS (ms s10 45 (mf s10 74) (mf s10 0)) fun s12 =>
    f_12092_L70 1000 l1 l2 0 s12
def f_12092_J45  (l1 : Int32) (l2 : Int32) (k0 : Int32) (s : Mx) : Option (Mx × Int32) :=
  f_12092_J46 l1 l2 0 k0 s
def f_12092_J25  (l1 : Int32) (l2 : Int32) (k0 : Int32) (s : Mx) : Option (Mx × Int32) :=
  if (mf s 9) = 0 then
    if 30 ≤ (mf s 74) then
      f_12092_J45 l1 l2 k0 s
    else
      f_12092_J46 l1 l2 1 k0 s
  else
    f_12092_J45 l1 l2 k0 s
def f_12092_J24  (l1 : Int32) (l2 : Int32) (s : Mx) : Option (Mx × Int32) :=
  f_12092_J25 l1 l2 0 s
def f_12092 (x0 : Int32) (x1 : Int32) (s : Mx) : Option (Mx × Int32) :=
  bOv (f_12071 s) fun s15 =>
  if (f_12091 x0 s15) = 0 then
    f_12092_J24 x0 x1 s15
  else
    if (f_12082 x1 s15) = 0 then
      f_12092_J24 x0 x1 s15
    else
      f_12092_J25 x0 x1 1 s15
theorem sp_12092 {d : Nat} {G : ab_G} {ad : Nat → Nat} {I : Nat → Nat → Int32} {s : Mx} {P : ab_Pq} {X : ab_Xq} (hE : EM G ad) (hP : RepM I ad s) {x0 : Int32} {x1 : Int32}  {o : Mx × Int32} (ho : f_12092 x0 x1 s = some o) (h : ∀ I1, RepM I1 ad o.1 → FrM ad I I1 → P (gW G I1) (some (.int o.2))) : ab_Gam (d + 10) 12092 [.ref (ad 0), .int x0, .int x1] (gW G I) P X := by
  have h2 := h
  have hF : FrM ad I I := FrM_rfl
  unfold f_12092 at ho
  refine ab_enter (I := i12092) rfl (Nat.le_of_ble_eq_true rfl) (fun R hR => ?_)
  have h12092_L150 : ∀ (n : Nat) (l1 : Int32) (l2 : Int32) (l3 : Int32)  (s : Mx) (Ia : Nat → Nat → Int32) (bc bs : Nat) (hPa : RepM Ia ad s) (hFa : FrM ad I Ia) (ho : f_12092_L150 n l1 l2 l3 s = some o), R 150 [some (.ref (ad 0)), some (.int l1), some (.int l2), some (.int l3)] [] (gW G Ia) bc bs := by
    intro n
    induction n with
    | zero => intro l1 l2 l3  s Ia bc bs  hPa hFa ho; exact absurd ho (by intro hc; cases hc)
    | succ n150 ih150 =>
      intro l1 l2 l3  s Ia bc bs  hPa hFa ho
      rw [f_12092_L150] at ho
      refine us_iload_n hR dX11_hand_150 rfl ?_
      refine us_aload_n hR dX11_hand_151 rfl ?_
      refine us_getR hR dX11_hand_152 fR_12_126 hE.2.1 rfl (em_r_68 hE) ?_
      refine us_iload_n hR dX11_hand_155 rfl ?_
      have hg := gd_c ho
      rw [gd_e hg] at ho
      refine us_ialoadM hE hPa (em_q_68 hE) hR dX11_hand_156 hg ?_
      refine us_icmp_ge hR dX11_hand_157 175 (by decide) (fun c1 => ?_) (fun c1 => ?_)
      · rw [if_pos c1] at ho
        refine us_aload_n hR dX11_hand_175 rfl ?_
        refine us_dup hR dX11_hand_176 rfl ?_
        refine us_getIx hR dX11_hand_177 fR_12_512 hE.2.1 rfl (RepM_f hPa 74) ?_
        refine us_iconstC hR dX11_hand_180 (c := 1) (by decide) ?_
        refine us_iadd hR dX11_hand_181 ?_
        refine us_putIM hE hPa 74 hR dX11_hand_182 fR_12_512 (Or.inl rfl) rfl rfl (fun I2 s2 hs2 hP2 hF2 => ?_)
        rw [← hs2, bS_eq] at ho
        have hF2 := hFa.tr hF2
        refine us_aload_n hR dX11_hand_185 rfl ?_
        refine us_getIx hR dX11_hand_186 fR_12_512 hE.2.1 rfl (RepM_f hP2 74) ?_
        refine us_iconstC hR dX11_hand_189 (c := 1) (by decide) ?_
        refine us_isub hR dX11_hand_190 ?_
        refine us_iret hR dX11_hand_191 rfl rfl ?_
        cases ho
        exact h2 _ hP2 hF2
      · rw [if_neg c1] at ho
        refine us_aload_n hR dX11_hand_160 rfl ?_
        refine us_aload_n hR dX11_hand_161 rfl ?_
        refine us_getIx hR dX11_hand_162 fR_12_512 hE.2.1 rfl (RepM_f hPa 74) ?_
        refine us_iload_n hR dX11_hand_165 rfl ?_
        refine us_callV hR dX11_hand_166 (y := 12085) (by decide +kernel) (by decide) (J := i12085) rfl rfl rfl rfl hE.2.1 rfl (Nat.le_of_ble_eq_true rfl) (Nat.zero_le _) (Nat.zero_le _) ?_
        obtain ⟨s3, hs3⟩ := bOv_ex ho
        replace ho := bOv_go ho hs3
        refine sp_12085 hE hPa  hs3 (fun I3 hP3 hF3 => ?_)
        have hF3 := hFa.tr hF3
        refine us_iincC hR dX11_hand_169 rfl (Nat.le_of_ble_eq_true rfl) (c := 1) (by decide) ?_
        refine us_goto hR dX11_hand_172 150 (by decide) ?_
        exact ih150 l1 l2 (l3 + 1)  s3 I3 _ _ hP3 hF3 ho
  have h12092_L70 : ∀ (n : Nat) (l1 : Int32) (l2 : Int32) (l3 : Int32)  (s : Mx) (Ia : Nat → Nat → Int32) (bc bs : Nat) (hPa : RepM Ia ad s) (hFa : FrM ad I Ia) (ho : f_12092_L70 n l1 l2 l3 s = some o), R 70 [some (.ref (ad 0)), some (.int l1), some (.int l2), some (.int l3)] [] (gW G Ia) bc bs := by
    intro n
    induction n with
    | zero => intro l1 l2 l3  s Ia bc bs  hPa hFa ho; exact absurd ho (by intro hc; cases hc)
    | succ n70 ih70 =>
      intro l1 l2 l3  s Ia bc bs  hPa hFa ho
      rw [f_12092_L70] at ho
      refine us_iload_n hR dX11_hand_70 rfl ?_
      refine us_aload_n hR dX11_hand_71 rfl ?_
      refine us_getIx hR dX11_hand_72 fR_12_189 hE.2.1 rfl (RepM_f hPa 0) ?_
      refine us_icmp_ge hR dX11_hand_75 105 (by decide) (fun c4 => ?_) (fun c4 => ?_)
      · rw [if_pos c4] at ho
        refine us_aload_n hR dX11_hand_105 rfl ?_
        refine us_getR hR dX11_hand_106 fR_12_147 hE.2.1 rfl (em_r_76 hE) ?_
        refine us_aload_n hR dX11_hand_109 rfl ?_
        refine us_getIx hR dX11_hand_110 fR_12_512 hE.2.1 rfl (RepM_f hPa 74) ?_
        refine us_iload_n hR dX11_hand_113 rfl ?_
        have hg := gd_c ho
        rw [gd_e hg] at ho
        refine us_iastoreM hE hPa (em_q_76 hE) hR dX11_hand_114 hg (fun I5 s5 hs5 hP5 hF5 => ?_)
        rw [← hs5, bS_eq] at ho
        have hF5 := hFa.tr hF5
        refine us_aload_n hR dX11_hand_115 rfl ?_
        refine us_getR hR dX11_hand_116 fR_12_150 hE.2.1 rfl (em_r_77 hE) ?_
        refine us_aload_n hR dX11_hand_119 rfl ?_
        refine us_getIx hR dX11_hand_120 fR_12_512 hE.2.1 rfl (RepM_f hP5 74) ?_
        refine us_iload_n hR dX11_hand_123 rfl ?_
        have hg := gd_c ho
        rw [gd_e hg] at ho
        refine us_iastoreM hE hP5 (em_q_77 hE) hR dX11_hand_124 hg (fun I6 s6 hs6 hP6 hF6 => ?_)
        rw [← hs6, bS_eq] at ho
        have hF6 := hF5.tr hF6
        refine us_aload_n hR dX11_hand_125 rfl ?_
        refine us_getR hR dX11_hand_126 fR_12_153 hE.2.1 rfl (em_r_78 hE) ?_
        refine us_aload_n hR dX11_hand_129 rfl ?_
        refine us_getIx hR dX11_hand_130 fR_12_512 hE.2.1 rfl (RepM_f hP6 74) ?_
        refine us_aload_n hR dX11_hand_133 rfl ?_
        refine us_getIx hR dX11_hand_134 fR_12_505 hE.2.1 rfl (RepM_f hP6 64) ?_
        have hg := gd_c ho
        rw [gd_e hg] at ho
        refine us_iastoreM hE hP6 (em_q_78 hE) hR dX11_hand_137 hg (fun I7 s7 hs7 hP7 hF7 => ?_)
        rw [← hs7, bS_eq] at ho
        have hF7 := hF6.tr hF7
        refine us_aload_n hR dX11_hand_138 rfl ?_
        refine us_getR hR dX11_hand_139 fR_12_156 hE.2.1 rfl (em_r_79 hE) ?_
        refine us_aload_n hR dX11_hand_142 rfl ?_
        refine us_getIx hR dX11_hand_143 fR_12_512 hE.2.1 rfl (RepM_f hP7 74) ?_
        refine us_iconstC hR dX11_hand_146 (c := 0) (by decide) ?_
        have hg := gd_c ho
        rw [gd_e hg] at ho
        refine us_bastoreM hE hP7 (em_q_79 hE) hR dX11_hand_147 hg (fun I8 s8 hs8 hP8 hF8 => ?_)
        rw [← hs8, bS_eq] at ho
        have hF8 := hF7.tr hF8
        refine us_iconstC hR dX11_hand_148 (c := 0) (by decide) ?_
        refine us_istore_n hR dX11_hand_149 (Nat.le_of_ble_eq_true rfl) ?_
        exact h12092_L150 _ l1 l2 0  s8 I8 _ _ hP8 hF8 ho
      · rw [if_neg c4] at ho
        refine us_aload_n hR dX11_hand_78 rfl ?_
        refine us_getR hR dX11_hand_79 fR_12_13 hE.2.1 rfl (em_r_2 hE) ?_
        refine us_sipushC hR dX11_hand_82 (c := 300) (by decide) ?_
        refine us_aload_n hR dX11_hand_85 rfl ?_
        refine us_getIx hR dX11_hand_86 fR_12_512 hE.2.1 rfl (RepM_f hPa 74) ?_
        refine us_imul hR dX11_hand_89 ?_
        refine us_iload_n hR dX11_hand_90 rfl ?_
        refine us_iadd hR dX11_hand_91 ?_
        refine us_aload_n hR dX11_hand_92 rfl ?_
        refine us_getR hR dX11_hand_93 fR_12_7 hE.2.1 rfl (em_r_1 hE) ?_
        refine us_iload_n hR dX11_hand_96 rfl ?_
        have hg := gd_c ho
        rw [gd_e hg] at ho
        refine us_caloadM hE hPa (em_q_1 hE) hR dX11_hand_97 hg ?_
        have hg := gd_c ho
        rw [gd_e hg] at ho
        refine us_castoreM hE hPa (em_q_2 hE) hR dX11_hand_98 hg (fun I9 s9 hs9 hP9 hF9 => ?_)
        rw [← hs9, bS_eq] at ho
        have hF9 := hFa.tr hF9
        refine us_iincC hR dX11_hand_99 rfl (Nat.le_of_ble_eq_true rfl) (c := 1) (by decide) ?_
        refine us_goto hR dX11_hand_102 70 (by decide) ?_
        exact ih70 l1 l2 (l3 + 1)  s9 I9 _ _ hP9 hF9 ho
  have h12092_J46 : ∀ (l1 : Int32) (l2 : Int32) (k0 : Int32) (k1 : Int32)  (s : Mx) (Ia : Nat → Nat → Int32) (bc bs : Nat) (hPa : RepM Ia ad s) (hFa : FrM ad I Ia) (ho : f_12092_J46 l1 l2 k0 k1 s = some o), R 46 [some (.ref (ad 0)), some (.int l1), some (.int l2), none] [.int k0, .int k1, .ref (ad 0)] (gW G Ia) bc bs := by
    intro l1 l2 k0 k1  s Ia bc bs  hPa hFa ho
    unfold f_12092_J46 at ho
    refine us_iconstC hR dX11_hand_46 (c := 1) (by decide) ?_
    refine us_callV hR dX11_hand_47 (y := 12003) (by decide +kernel) (by decide) (J := i12003) rfl rfl rfl rfl hE.2.1 rfl (Nat.le_of_ble_eq_true rfl) (Nat.zero_le _) (Nat.zero_le _) ?_
    refine sp_12003 hE hPa  (fun I10 q10 hs10 hb10 hP10 hF10 => ?_)
    rw [← hs10] at ho
    obtain ⟨s10, r10⟩ := q10
    rw [bT_eq] at ho
    have hF10 := hFa.tr hF10
    refine us_if_ne hR dX11_hand_50 55 (by decide) (fun c11 => ?_) (fun c11 => ?_)
    · rw [if_neg c11] at ho
      refine us_aload_n hR dX11_hand_55 rfl ?_
      refine us_getR hR dX11_hand_56 fR_12_144 hE.2.1 rfl (em_r_75 hE) ?_
      refine us_aload_n hR dX11_hand_59 rfl ?_
      refine us_getIx hR dX11_hand_60 fR_12_512 hE.2.1 rfl (RepM_f hP10 74) ?_
      refine us_aload_n hR dX11_hand_63 rfl ?_
      refine us_getIx hR dX11_hand_64 fR_12_189 hE.2.1 rfl (RepM_f hP10 0) ?_
      have hg := gd_c ho
      rw [gd_e hg] at ho
      refine us_iastoreM hE hP10 (em_q_75 hE) hR dX11_hand_67 hg (fun I12 s12 hs12 hP12 hF12 => ?_)
      rw [← hs12, bS_eq] at ho
      have hF12 := hF10.tr hF12
      refine us_iconstC hR dX11_hand_68 (c := 0) (by decide) ?_
      refine us_istore_n hR dX11_hand_69 (Nat.le_of_ble_eq_true rfl) ?_
      exact h12092_L70 _ l1 l2 0  s12 I12 _ _ hP12 hF12 ho
    · rw [if_pos c11] at ho
      refine us_iconstC hR dX11_hand_53 (c := 0) (by decide) ?_
      refine us_iret hR dX11_hand_54 rfl rfl ?_
      cases ho
      exact h2 _ hP10 hF10
  have h12092_J45 : ∀ (l1 : Int32) (l2 : Int32) (k0 : Int32)  (s : Mx) (Ia : Nat → Nat → Int32) (bc bs : Nat) (hPa : RepM Ia ad s) (hFa : FrM ad I Ia) (ho : f_12092_J45 l1 l2 k0 s = some o), R 45 [some (.ref (ad 0)), some (.int l1), some (.int l2), none] [.int k0, .ref (ad 0)] (gW G Ia) bc bs := by
    intro l1 l2 k0  s Ia bc bs  hPa hFa ho
    unfold f_12092_J45 at ho
    refine us_iconstC hR dX11_hand_45 (c := 0) (by decide) ?_
    exact h12092_J46 l1 l2 0 k0  s Ia _ _ hPa hFa ho
  have h12092_J25 : ∀ (l1 : Int32) (l2 : Int32) (k0 : Int32)  (s : Mx) (Ia : Nat → Nat → Int32) (bc bs : Nat) (hPa : RepM Ia ad s) (hFa : FrM ad I Ia) (ho : f_12092_J25 l1 l2 k0 s = some o), R 25 [some (.ref (ad 0)), some (.int l1), some (.int l2), none] [.int k0, .ref (ad 0)] (gW G Ia) bc bs := by
    intro l1 l2 k0  s Ia bc bs  hPa hFa ho
    unfold f_12092_J25 at ho
    refine us_aload_n hR dX11_hand_25 rfl ?_
    refine us_getIx hR dX11_hand_26 fR_12_254 hE.2.1 rfl (RepM_f hPa 9) ?_
    refine us_if_ne hR dX11_hand_29 45 (by decide) (fun c13 => ?_) (fun c13 => ?_)
    · rw [if_neg c13] at ho
      exact h12092_J45 l1 l2 k0  s Ia _ _ hPa hFa ho
    · rw [if_pos c13] at ho
      refine us_aload_n hR dX11_hand_32 rfl ?_
      refine us_getIx hR dX11_hand_33 fR_12_512 hE.2.1 rfl (RepM_f hPa 74) ?_
      refine us_bipushC hR dX11_hand_36 (c := 30) (by decide) ?_
      refine us_icmp_ge hR dX11_hand_38 45 (by decide) (fun c14 => ?_) (fun c14 => ?_)
      · rw [if_pos c14] at ho
        exact h12092_J45 l1 l2 k0  s Ia _ _ hPa hFa ho
      · rw [if_neg c14] at ho
        refine us_iconstC hR dX11_hand_41 (c := 1) (by decide) ?_
        refine us_goto hR dX11_hand_42 46 (by decide) ?_
        exact h12092_J46 l1 l2 1 k0  s Ia _ _ hPa hFa ho
  have h12092_J24 : ∀ (l1 : Int32) (l2 : Int32)  (s : Mx) (Ia : Nat → Nat → Int32) (bc bs : Nat) (hPa : RepM Ia ad s) (hFa : FrM ad I Ia) (ho : f_12092_J24 l1 l2 s = some o), R 24 [some (.ref (ad 0)), some (.int l1), some (.int l2), none] [.ref (ad 0)] (gW G Ia) bc bs := by
    intro l1 l2  s Ia bc bs  hPa hFa ho
    unfold f_12092_J24 at ho
    refine us_iconstC hR dX11_hand_24 (c := 0) (by decide) ?_
    exact h12092_J25 l1 l2 0  s Ia _ _ hPa hFa ho
  refine us_aload_n hR dX11_hand_0 rfl ?_
  refine us_callV hR dX11_hand_1 (y := 12071) (by decide +kernel) (by decide) (J := i12071) rfl rfl rfl rfl hE.2.1 rfl (Nat.le_of_ble_eq_true rfl) (Nat.zero_le _) (Nat.zero_le _) ?_
  obtain ⟨s15, hs15⟩ := bOv_ex ho
  replace ho := bOv_go ho hs15
  refine sp_12071 hE hP  hs15 (fun I15 hP15 hF15 => ?_)
  have hF15 := hF.tr hF15
  refine us_aload_n hR dX11_hand_4 rfl ?_
  refine us_iload_n hR dX11_hand_5 rfl ?_
  refine us_callS hR dX11_hand_6 (y := 12091) (by decide +kernel) (by decide) (J := i12091) rfl rfl rfl rfl (rest := _) (Nat.le_of_ble_eq_true rfl) (Nat.zero_le _) (Nat.zero_le _) ?_
  refine sp_12091 hE hP15  (fun hb16 => ?_)
  refine us_if_eq hR dX11_hand_9 24 (by decide) (fun c17 => ?_) (fun c17 => ?_)
  · rw [if_pos c17] at ho
    exact h12092_J24 x0 x1  s15 I15 _ _ hP15 hF15 ho
  · rw [if_neg c17] at ho
    refine us_aload_n hR dX11_hand_12 rfl ?_
    refine us_iload_n hR dX11_hand_13 rfl ?_
    refine us_callV hR dX11_hand_14 (y := 12082) (by decide +kernel) (by decide) (J := i12082) rfl rfl rfl rfl hE.2.1 rfl (Nat.le_of_ble_eq_true rfl) (Nat.zero_le _) (Nat.zero_le _) ?_
    refine sp_12082 hE hP15  (fun hb18 => ?_)
    refine us_if_eq hR dX11_hand_17 24 (by decide) (fun c19 => ?_) (fun c19 => ?_)
    · rw [if_pos c19] at ho
      exact h12092_J24 x0 x1  s15 I15 _ _ hP15 hF15 ho
    · rw [if_neg c19] at ho
      refine us_iconstC hR dX11_hand_20 (c := 1) (by decide) ?_
      refine us_goto hR dX11_hand_21 25 (by decide) ?_
      exact h12092_J25 x0 x1 1  s15 I15 _ _ hP15 hF15 ho
def f_12093  (s : Mx) : Mx × Int32 :=
  bT (f_12004 (mf s 74) s) fun s1 r1 =>
  (s1, r1)
theorem sp_12093 {d : Nat} {G : ab_G} {ad : Nat → Nat} {I : Nat → Nat → Int32} {s : Mx} {P : ab_Pq} {X : ab_Xq} (hE : EM G ad) (hP : RepM I ad s)   (h : ∀ I1 o, o = f_12093 s → RepM I1 ad o.1 → FrM ad I I1 → P (gW G I1) (some (.int o.2))) : ab_Gam (d + 2) 12093 [.ref (ad 0)] (gW G I) P X := by
  obtain ⟨o, ho⟩ : ∃ o, o = f_12093 s := ⟨_, rfl⟩
  have h2 := fun I1 => h I1 o ho
  have hF : FrM ad I I := FrM_rfl
  unfold f_12093 at ho
  refine ab_enter (I := i12093) rfl (Nat.le_of_ble_eq_true rfl) (fun R hR => ?_)
  refine us_aload_n hR dX11_answers_0 rfl ?_
  refine us_aload_n hR dX11_answers_1 rfl ?_
  refine us_getIx hR dX11_answers_2 fR_12_512 hE.2.1 rfl (RepM_f hP 74) ?_
  refine us_callV hR dX11_answers_5 (y := 12004) (by decide +kernel) (by decide) (J := i12004) rfl rfl rfl rfl hE.2.1 rfl (Nat.le_of_ble_eq_true rfl) (Nat.zero_le _) (Nat.zero_le _) ?_
  refine sp_12004 hE hP  (fun I1 q1 hs1 hP1 hF1 => ?_)
  rw [← hs1] at ho
  obtain ⟨s1, r1⟩ := q1
  rw [bT_eq] at ho
  have hF1 := hF.tr hF1
  refine us_iret hR dX11_answers_8 rfl rfl ?_
  subst ho
  exact h2 _ hP1 hF1
def f_12094 (x0 : Int32) (x1 : Int32) (s : Mx) : Option Int32 :=
  if (f_12090 x0 s) = 0 then
    some 0
  else
    gd (vi x0 30) <|
    gd (vi (mg s 47 x0) 4) <|
    if (f_12002 x1.toInt64 0 (((mg s 39 (mg s 47 x0)) - 1).toInt64) s) = 0 then
      some 0
    else
      some 1
theorem sp_12094 {d : Nat} {G : ab_G} {ad : Nat → Nat} {I : Nat → Nat → Int32} {s : Mx} {P : ab_Pq} {X : ab_Xq} (hE : EM G ad) (hP : RepM I ad s) {x0 : Int32} {x1 : Int32}  {o : Int32} (ho : f_12094 x0 x1 s = some o) (h : (o = 0 ∨ o = 1) → P (gW G I) (some (.int o))) : ab_Gam (d + 3) 12094 [.ref (ad 0), .int x0, .int x1] (gW G I) P X := by
  have h2 := h
  have hF : FrM ad I I := FrM_rfl
  unfold f_12094 at ho
  refine ab_enter (I := i12094) rfl (Nat.le_of_ble_eq_true rfl) (fun R hR => ?_)
  refine us_aload_n hR dX11_isTestOf_0 rfl ?_
  refine us_iload_n hR dX11_isTestOf_1 rfl ?_
  refine us_callV hR dX11_isTestOf_2 (y := 12090) (by decide +kernel) (by decide) (J := i12090) rfl rfl rfl rfl hE.2.1 rfl (Nat.le_of_ble_eq_true rfl) (Nat.zero_le _) (Nat.zero_le _) ?_
  refine sp_12090 hE hP  (fun hb1 => ?_)
  refine us_if_eq hR dX11_isTestOf_5 35 (by decide) (fun c2 => ?_) (fun c2 => ?_)
  · rw [if_pos c2] at ho
    refine us_iconstC hR dX11_isTestOf_35 (c := 0) (by decide) ?_
    refine us_iret hR dX11_isTestOf_36 rfl (nar01 (Or.inl rfl)) ?_
    cases ho
    exact h2 (Or.inl rfl) 
  · rw [if_neg c2] at ho
    refine us_iload_n hR dX11_isTestOf_8 rfl ?_
    refine us_i2l hR dX11_isTestOf_9 ?_
    refine us_lconstC hR dX11_isTestOf_10 (c := 0) (by decide) ?_
    refine us_aload_n hR dX11_isTestOf_11 rfl ?_
    refine us_getR hR dX11_isTestOf_12 fR_12_126 hE.2.1 rfl (em_r_68 hE) ?_
    refine us_aload_n hR dX11_isTestOf_15 rfl ?_
    refine us_getR hR dX11_isTestOf_16 fR_12_150 hE.2.1 rfl (em_r_77 hE) ?_
    refine us_iload_n hR dX11_isTestOf_19 rfl ?_
    have hg := gd_c ho
    rw [gd_e hg] at ho
    refine us_ialoadM hE hP (em_q_77 hE) hR dX11_isTestOf_20 hg ?_
    have hg := gd_c ho
    rw [gd_e hg] at ho
    refine us_ialoadM hE hP (em_q_68 hE) hR dX11_isTestOf_21 hg ?_
    refine us_iconstC hR dX11_isTestOf_22 (c := 1) (by decide) ?_
    refine us_isub hR dX11_isTestOf_23 ?_
    refine us_i2l hR dX11_isTestOf_24 ?_
    refine us_callS hR dX11_isTestOf_25 (y := 12002) (by decide +kernel) (by decide) (J := i12002) rfl rfl rfl rfl (rest := _) (Nat.le_of_ble_eq_true rfl) (Nat.zero_le _) (Nat.zero_le _) ?_
    refine sp_12002 hE hP  (fun hb3 => ?_)
    refine us_if_eq hR dX11_isTestOf_28 35 (by decide) (fun c4 => ?_) (fun c4 => ?_)
    · rw [if_pos c4] at ho
      refine us_iconstC hR dX11_isTestOf_35 (c := 0) (by decide) ?_
      refine us_iret hR dX11_isTestOf_36 rfl (nar01 (Or.inl rfl)) ?_
      cases ho
      exact h2 (Or.inl rfl) 
    · rw [if_neg c4] at ho
      refine us_iconstC hR dX11_isTestOf_31 (c := 1) (by decide) ?_
      refine us_goto hR dX11_isTestOf_32 36 (by decide) ?_
      refine us_iret hR dX11_isTestOf_36 rfl (nar01 (Or.inr rfl)) ?_
      cases ho
      exact h2 (Or.inr rfl) 
