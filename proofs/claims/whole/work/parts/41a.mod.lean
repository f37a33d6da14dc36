/-! shadows: the reference -/
def f_12001  (s : Mx) : Int32 :=
  (mf s 82)
theorem sp_12001 {d : Nat} {G : ab_G} {ad : Nat → Nat} {I : Nat → Nat → Int32} {s : Mx} {P : ab_Pq} {X : ab_Xq} (hE : EM G ad) (hP : RepM I ad s)   (h : P (gW G I) (some (.int (f_12001 s)))) : ab_Gam (d + 1) 12001 [.ref (ad 0)] (gW G I) P X := by
  obtain ⟨o, ho⟩ : ∃ o, o = f_12001 s := ⟨_, rfl⟩
  rw [← ho] at h
  have h2 := h
  have hF : FrM ad I I := FrM_rfl
  unfold f_12001 at ho
  refine ab_enter (I := i12001) rfl (Nat.le_of_ble_eq_true rfl) (fun R hR => ?_)
  refine us_aload_n hR dX11_thrown_0 rfl ?_
  refine us_getIx hR dX11_thrown_1 fR_12_165 hE.2.1 rfl (RepM_f hP 82) ?_
  refine us_iret hR dX11_thrown_4 rfl rfl ?_
  subst ho
  exact h2
def f_12002 (x0 : Int64) (x1 : Int64) (x2 : Int64) (s : Mx) : Int32 :=
  if (lg_cmp x0 x1) < 0 then
    0
  else
    if 0 < (lg_cmp x0 x2) then
      0
    else
      1
theorem sp_12002 {d : Nat} {G : ab_G} {ad : Nat → Nat} {I : Nat → Nat → Int32} {s : Mx} {P : ab_Pq} {X : ab_Xq} (hE : EM G ad) (hP : RepM I ad s) {x0 : Int64} {x1 : Int64} {x2 : Int64}  (h : (f_12002 x0 x1 x2 s = 0 ∨ f_12002 x0 x1 x2 s = 1) → P (gW G I) (some (.int (f_12002 x0 x1 x2 s)))) : ab_Gam (d + 1) 12002 [.long x0, .long x1, .long x2] (gW G I) P X := by
  obtain ⟨o, ho⟩ : ∃ o, o = f_12002 x0 x1 x2 s := ⟨_, rfl⟩
  rw [← ho] at h
  have h2 := h
  have hF : FrM ad I I := FrM_rfl
  unfold f_12002 at ho
  refine ab_enter (I := i12002) rfl (Nat.le_of_ble_eq_true rfl) (fun R hR => ?_)
  refine us_lload_n hR dX11_in_0 rfl ?_
  refine us_lload_n hR dX11_in_1 rfl ?_
  refine us_lcmp hR dX11_in_2 ?_
  refine us_if_lt hR dX11_in_3 17 (by decide) (fun c1 => ?_) (fun c1 => ?_)
  · rw [if_pos c1] at ho
    refine us_iconstC hR dX11_in_17 (c := 0) (by decide) ?_
    refine us_iret hR dX11_in_18 rfl (nar01 (Or.inl rfl)) ?_
    subst ho
    exact h2 (Or.inl rfl) 
  · rw [if_neg c1] at ho
    refine us_lload_n hR dX11_in_6 rfl ?_
    refine us_lload hR dX11_in_7 rfl ?_
    refine us_lcmp hR dX11_in_9 ?_
    refine us_if_gt hR dX11_in_10 17 (by decide) (fun c2 => ?_) (fun c2 => ?_)
    · rw [if_pos c2] at ho
      refine us_iconstC hR dX11_in_17 (c := 0) (by decide) ?_
      refine us_iret hR dX11_in_18 rfl (nar01 (Or.inl rfl)) ?_
      subst ho
      exact h2 (Or.inl rfl) 
    · rw [if_neg c2] at ho
      refine us_iconstC hR dX11_in_13 (c := 1) (by decide) ?_
      refine us_goto hR dX11_in_14 18 (by decide) ?_
      refine us_iret hR dX11_in_18 rfl (nar01 (Or.inr rfl)) ?_
      subst ho
      exact h2 (Or.inr rfl) 
def f_12003_J26  (l1 : Int32) (l2 : Int32) (l3 : Int32) (k0 : Int32) (s : Mx) : Mx × Int32 :=
  bS (mp s 82 k0) fun s1 =>
  if (mf s1 82) = 0 then
    (s1, 1)
  else
    (s1, 0)
def f_12003 (x0 : Int32) (x1 : Int32) (x2 : Int32) (s : Mx) : Mx × Int32 :=
  if x0 = 0 then
    f_12003_J26 x0 x1 x2 1 s
  else
    if x1 = 0 then
      f_12003_J26 x0 x1 x2 2 s
    else
      if x2 = 0 then
        f_12003_J26 x0 x1 x2 3 s
      else
        f_12003_J26 x0 x1 x2 0 s
theorem sp_12003 {d : Nat} {G : ab_G} {ad : Nat → Nat} {I : Nat → Nat → Int32} {s : Mx} {P : ab_Pq} {X : ab_Xq} (hE : EM G ad) (hP : RepM I ad s) {x0 : Int32} {x1 : Int32} {x2 : Int32}  (h : ∀ I1 o, o = f_12003 x0 x1 x2 s → (o.2 = 0 ∨ o.2 = 1) → RepM I1 ad o.1 → FrM ad I I1 → P (gW G I1) (some (.int o.2))) : ab_Gam (d + 1) 12003 [.ref (ad 0), .int x0, .int x1, .int x2] (gW G I) P X := by
  obtain ⟨o, ho⟩ : ∃ o, o = f_12003 x0 x1 x2 s := ⟨_, rfl⟩
  have h2 := fun I1 => h I1 o ho
  have hF : FrM ad I I := FrM_rfl
  unfold f_12003 at ho
  refine ab_enter (I := i12003) rfl (Nat.le_of_ble_eq_true rfl) (fun R hR => ?_)
  have h12003_J26 : ∀ (l1 : Int32) (l2 : Int32) (l3 : Int32) (k0 : Int32)  (s : Mx) (Ia : Nat → Nat → Int32) (bc bs : Nat) (hPa : RepM Ia ad s) (hFa : FrM ad I Ia) (ho : o = f_12003_J26 l1 l2 l3 k0 s), R 26 [some (.ref (ad 0)), some (.int l1), some (.int l2), some (.int l3)] [.int k0, .ref (ad 0)] (gW G Ia) bc bs := by
    intro l1 l2 l3 k0  s Ia bc bs  hPa hFa ho
    unfold f_12003_J26 at ho
    refine us_putIM hE hPa 82 hR dX11_goes_26 fR_12_165 (Or.inl rfl) rfl rfl (fun I1 s1 hs1 hP1 hF1 => ?_)
    rw [← hs1, bS_eq] at ho
    have hF1 := hFa.tr hF1
    refine us_aload_n hR dX11_goes_29 rfl ?_
    refine us_getIx hR dX11_goes_30 fR_12_165 hE.2.1 rfl (RepM_f hP1 82) ?_
    refine us_if_ne hR dX11_goes_33 40 (by decide) (fun c2 => ?_) (fun c2 => ?_)
    · rw [if_neg c2] at ho
      refine us_iconstC hR dX11_goes_40 (c := 0) (by decide) ?_
      refine us_iret hR dX11_goes_41 rfl (nar01 (Or.inl rfl)) ?_
      subst ho
      exact h2 _ (Or.inl rfl) hP1 hF1
    · rw [if_pos c2] at ho
      refine us_iconstC hR dX11_goes_36 (c := 1) (by decide) ?_
      refine us_goto hR dX11_goes_37 41 (by decide) ?_
      refine us_iret hR dX11_goes_41 rfl (nar01 (Or.inr rfl)) ?_
      subst ho
      exact h2 _ (Or.inr rfl) hP1 hF1
  refine us_aload_n hR dX11_goes_0 rfl ?_
  refine us_iload_n hR dX11_goes_1 rfl ?_
  refine us_if_ne hR dX11_goes_2 9 (by decide) (fun c3 => ?_) (fun c3 => ?_)
  · rw [if_neg c3] at ho
    refine us_iload_n hR dX11_goes_9 rfl ?_
    refine us_if_ne hR dX11_goes_10 17 (by decide) (fun c4 => ?_) (fun c4 => ?_)
    · rw [if_neg c4] at ho
      refine us_iload_n hR dX11_goes_17 rfl ?_
      refine us_if_ne hR dX11_goes_18 25 (by decide) (fun c5 => ?_) (fun c5 => ?_)
      · rw [if_neg c5] at ho
        refine us_iconstC hR dX11_goes_25 (c := 0) (by decide) ?_
        exact h12003_J26 x0 x1 x2 0  s I _ _ hP hF ho
      · rw [if_pos c5] at ho
        refine us_iconstC hR dX11_goes_21 (c := 3) (by decide) ?_
        refine us_goto hR dX11_goes_22 26 (by decide) ?_
        exact h12003_J26 x0 x1 x2 3  s I _ _ hP hF ho
    · rw [if_pos c4] at ho
      refine us_iconstC hR dX11_goes_13 (c := 2) (by decide) ?_
      refine us_goto hR dX11_goes_14 26 (by decide) ?_
      exact h12003_J26 x0 x1 x2 2  s I _ _ hP hF ho
  · rw [if_pos c3] at ho
    refine us_iconstC hR dX11_goes_5 (c := 1) (by decide) ?_
    refine us_goto hR dX11_goes_6 26 (by decide) ?_
    exact h12003_J26 x0 x1 x2 1  s I _ _ hP hF ho
def f_12004 (x0 : Int32) (s : Mx) : Mx × Int32 :=
  bS (mp s 82 0) fun s1 =>
  (s1, x0)
theorem sp_12004 {d : Nat} {G : ab_G} {ad : Nat → Nat} {I : Nat → Nat → Int32} {s : Mx} {P : ab_Pq} {X : ab_Xq} (hE : EM G ad) (hP : RepM I ad s) {x0 : Int32}  (h : ∀ I1 o, o = f_12004 x0 s → RepM I1 ad o.1 → FrM ad I I1 → P (gW G I1) (some (.int o.2))) : ab_Gam (d + 1) 12004 [.ref (ad 0), .int x0] (gW G I) P X := by
  obtain ⟨o, ho⟩ : ∃ o, o = f_12004 x0 s := ⟨_, rfl⟩
  have h2 := fun I1 => h I1 o ho
  have hF : FrM ad I I := FrM_rfl
  unfold f_12004 at ho
  refine ab_enter (I := i12004) rfl (Nat.le_of_ble_eq_true rfl) (fun R hR => ?_)
  refine us_aload_n hR dX11_told_0 rfl ?_
  refine us_iconstC hR dX11_told_1 (c := 0) (by decide) ?_
  refine us_putIM hE hP 82 hR dX11_told_2 fR_12_165 (Or.inl rfl) rfl rfl (fun I1 s1 hs1 hP1 hF1 => ?_)
  rw [← hs1, bS_eq] at ho
  have hF1 := hF.tr hF1
  refine us_iload_n hR dX11_told_5 rfl ?_
  refine us_iret hR dX11_told_6 rfl rfl ?_
  subst ho
  exact h2 _ hP1 hF1
def f_12005 (x0 : Int64) (s : Mx) : Int32 :=
  if (lg_cmp x0 0) = 0 then
    1
  else
    if (lg_cmp x0 10) = 0 then
      1
    else
      if (f_12002 x0 32 126 s) = 0 then
        0
      else
        1
theorem sp_12005 {d : Nat} {G : ab_G} {ad : Nat → Nat} {I : Nat → Nat → Int32} {s : Mx} {P : ab_Pq} {X : ab_Xq} (hE : EM G ad) (hP : RepM I ad s) {x0 : Int64}  (h : (f_12005 x0 s = 0 ∨ f_12005 x0 s = 1) → P (gW G I) (some (.int (f_12005 x0 s)))) : ab_Gam (d + 2) 12005 [.long x0] (gW G I) P X := by
  obtain ⟨o, ho⟩ : ∃ o, o = f_12005 x0 s := ⟨_, rfl⟩
  rw [← ho] at h
  have h2 := h
  have hF : FrM ad I I := FrM_rfl
  unfold f_12005 at ho
  refine ab_enter (I := i12005) rfl (Nat.le_of_ble_eq_true rfl) (fun R hR => ?_)
  refine us_lload_n hR dX11_isSign_0 rfl ?_
  refine us_lconstC hR dX11_isSign_1 (c := 0) (by decide) ?_
  refine us_lcmp hR dX11_isSign_2 ?_
  refine us_if_eq hR dX11_isSign_3 27 (by decide) (fun c1 => ?_) (fun c1 => ?_)
  · rw [if_pos c1] at ho
    refine us_iconstC hR dX11_isSign_27 (c := 1) (by decide) ?_
    refine us_goto hR dX11_isSign_28 32 (by decide) ?_
    refine us_iret hR dX11_isSign_32 rfl (nar01 (Or.inr rfl)) ?_
    subst ho
    exact h2 (Or.inr rfl) 
  · rw [if_neg c1] at ho
    refine us_lload_n hR dX11_isSign_6 rfl ?_
    refine us_ldc2_w hR dX11_isSign_7 (v := 10) (by decide +kernel) ?_
    refine us_lcmp hR dX11_isSign_10 ?_
    refine us_if_eq hR dX11_isSign_11 27 (by decide) (fun c2 => ?_) (fun c2 => ?_)
    · rw [if_pos c2] at ho
      refine us_iconstC hR dX11_isSign_27 (c := 1) (by decide) ?_
      refine us_goto hR dX11_isSign_28 32 (by decide) ?_
      refine us_iret hR dX11_isSign_32 rfl (nar01 (Or.inr rfl)) ?_
      subst ho
      exact h2 (Or.inr rfl) 
    · rw [if_neg c2] at ho
      refine us_lload_n hR dX11_isSign_14 rfl ?_
      refine us_ldc2_w hR dX11_isSign_15 (v := 32) (by decide +kernel) ?_
      refine us_ldc2_w hR dX11_isSign_18 (v := 126) (by decide +kernel) ?_
      refine us_callS hR dX11_isSign_21 (y := 12002) (by decide +kernel) (by decide) (J := i12002) rfl rfl rfl rfl (rest := _) (Nat.le_of_ble_eq_true rfl) (Nat.zero_le _) (Nat.zero_le _) ?_
      refine sp_12002 hE hP  (fun hb3 => ?_)
      refine us_if_eq hR dX11_isSign_24 31 (by decide) (fun c4 => ?_) (fun c4 => ?_)
      · rw [if_pos c4] at ho
        refine us_iconstC hR dX11_isSign_31 (c := 0) (by decide) ?_
        refine us_iret hR dX11_isSign_32 rfl (nar01 (Or.inl rfl)) ?_
        subst ho
        exact h2 (Or.inl rfl) 
      · rw [if_neg c4] at ho
        refine us_iconstC hR dX11_isSign_27 (c := 1) (by decide) ?_
        refine us_goto hR dX11_isSign_28 32 (by decide) ?_
        refine us_iret hR dX11_isSign_32 rfl (nar01 (Or.inr rfl)) ?_
        subst ho
        exact h2 (Or.inr rfl) 
def f_12006_L99  : Nat → Int64 → Int32 → Int32 → Int32 → Mx → Option (Mx × Int32)
  | 0, _, _, _, _, _ => none
  | n + 1, l1, l3, l4, l5, s =>
    if 8 ≤ l5 then
      some (s, (mf s 0))
    else
      if (lg_cmp ((l1.toUInt64 >>> ((8 * l5).toInt64.toUInt64 &&& Int64.toUInt64 63)).toInt64 &&& 255) 0) = 0 then
        f_12006_L99 n l1 l3 l4 (l5 + 1) s
      else
        gd (vi (mf s 0) 300) <|
        bS (ms s 1 (mf s 0) (vp_nar .char (((((l1.toUInt64 >>> ((8 * l5).toInt64.toUInt64 &&& Int64.toUInt64 63)).toInt64 &&& 255).toInt32).toUInt32 % 65536).toInt32))) fun s3 =>
        bS (mp s3 0 ((mf s3 0) + 1)) fun s4 =>
        f_12006_L99 n l1 l3 l4 (l5 + 1) s4
def f_12006_J45  (k8 : Int64 → Int32 → Int32 → Int32 → Mx → Option (Mx × Int32)) (l1 : Int64) (l3 : Int32) (l4 : Int32) (l5 : Int32) (l6 : Int64) (k0 : Int32) (s : Mx) : Option (Mx × Int32) :=
  if (lg_cmp l6 0) = 0 then
    k8 l1 k0 (l4 + 0) (l5 + 1) s
  else
    k8 l1 k0 (l4 + 1) (l5 + 1) s
def f_12006_J44  (k8 : Int64 → Int32 → Int32 → Int32 → Mx → Option (Mx × Int32)) (l1 : Int64) (l3 : Int32) (l4 : Int32) (l5 : Int32) (l6 : Int64) (s : Mx) : Option (Mx × Int32) :=
  f_12006_J45 k8 l1 l3 l4 l5 l6 0 s
def f_12006_L8  : Nat → Int64 → Int32 → Int32 → Int32 → Mx → Option (Mx × Int32)
  | 0, _, _, _, _, _ => none
  | n + 1, l1, l3, l4, l5, s =>
    if 8 ≤ l5 then
      bT (f_12003 l3 1 1 s) fun s7 r7 =>
      if r7 = 0 then
        some (s7, 0)
      else
        if ((mf s7 0) + l4) ≤ 300 then
          f_12006_L99 1000 l1 l3 l4 0 s7
        else
          some (s7, (-1))
    else
      if l3 = 0 then
        f_12006_J44 (f_12006_L8 n) l1 l3 l4 l5 ((l1.toUInt64 >>> ((8 * l5).toInt64.toUInt64 &&& Int64.toUInt64 63)).toInt64 &&& 255) s
      else
        if (f_12005 ((l1.toUInt64 >>> ((8 * l5).toInt64.toUInt64 &&& Int64.toUInt64 63)).toInt64 &&& 255) s) = 0 then
          f_12006_J44 (f_12006_L8 n) l1 l3 l4 l5 ((l1.toUInt64 >>> ((8 * l5).toInt64.toUInt64 &&& Int64.toUInt64 63)).toInt64 &&& 255) s
        else
          f_12006_J45 (f_12006_L8 n) l1 l3 l4 l5 ((l1.toUInt64 >>> ((8 * l5).toInt64.toUInt64 &&& Int64.toUInt64 63)).toInt64 &&& 255) 1 s
def f_12006 (x0 : Int64) (s : Mx) : Option (Mx × Int32) :=
  f_12006_L8 1000 x0 1 0 0 s
theorem sp_12006 {d : Nat} {G : ab_G} {ad : Nat → Nat} {I : Nat → Nat → Int32} {s : Mx} {P : ab_Pq} {X : ab_Xq} (hE : EM G ad) (hP : RepM I ad s) {x0 : Int64}  {o : Mx × Int32} (ho : f_12006 x0 s = some o) (h : ∀ I1, RepM I1 ad o.1 → FrM ad I I1 → P (gW G I1) (some (.int o.2))) : ab_Gam (d + 3) 12006 [.ref (ad 0), .long x0] (gW G I) P X := by
  have h2 := h
  have hF : FrM ad I I := FrM_rfl
  unfold f_12006 at ho
  refine ab_enter (I := i12006) rfl (Nat.le_of_ble_eq_true rfl) (fun R hR => ?_)
  have h12006_L99 : ∀ (n : Nat) (l1 : Int64) (l3 : Int32) (l4 : Int32) (l5 : Int32) (w6 : Option Value) (s : Mx) (Ia : Nat → Nat → Int32) (bc bs : Nat) (hPa : RepM Ia ad s) (hFa : FrM ad I Ia) (ho : f_12006_L99 n l1 l3 l4 l5 s = some o), R 99 [some (.ref (ad 0)), some (.long l1), none, some (.int l3), some (.int l4), some (.int l5), w6, none] [] (gW G Ia) bc bs := by
    intro n
    induction n with
    | zero => intro l1 l3 l4 l5 w6 s Ia bc bs  hPa hFa ho; exact absurd ho (by intro hc; cases hc)
    | succ n99 ih99 =>
      intro l1 l3 l4 l5 w6 s Ia bc bs  hPa hFa ho
      rw [f_12006_L99] at ho
      refine us_iload hR dX11_write_99 rfl ?_
      refine us_bipushC hR dX11_write_101 (c := 8) (by decide) ?_
      refine us_icmp_ge hR dX11_write_103 155 (by decide) (fun c1 => ?_) (fun c1 => ?_)
      · rw [if_pos c1] at ho
        refine us_aload_n hR dX11_write_155 rfl ?_
        refine us_getIx hR dX11_write_156 fR_12_189 hE.2.1 rfl (RepM_f hPa 0) ?_
        refine us_iret hR dX11_write_159 rfl rfl ?_
        cases ho
        exact h2 _ hPa hFa
      · rw [if_neg c1] at ho
        refine us_lload_n hR dX11_write_106 rfl ?_
        refine us_bipushC hR dX11_write_107 (c := 8) (by decide) ?_
        refine us_iload hR dX11_write_109 rfl ?_
        refine us_imul hR dX11_write_111 ?_
        refine us_lushr hR dX11_write_112 ?_
        refine us_ldc2_w hR dX11_write_113 (v := 255) (by decide +kernel) ?_
        refine us_land hR dX11_write_116 ?_
        refine us_lstore hR dX11_write_117 (Nat.le_of_ble_eq_true rfl) ?_
        refine us_lload hR dX11_write_119 rfl ?_
        refine us_lconstC hR dX11_write_121 (c := 0) (by decide) ?_
        refine us_lcmp hR dX11_write_122 ?_
        refine us_if_eq hR dX11_write_123 149 (by decide) (fun c2 => ?_) (fun c2 => ?_)
        · rw [if_pos c2] at ho
          refine us_iincC hR dX11_write_149 rfl (Nat.le_of_ble_eq_true rfl) (c := 1) (by decide) ?_
          refine us_goto hR dX11_write_152 99 (by decide) ?_
          exact ih99 l1 l3 l4 (l5 + 1) _ s Ia _ _ hPa hFa ho
        · rw [if_neg c2] at ho
          refine us_aload_n hR dX11_write_126 rfl ?_
          refine us_getR hR dX11_write_127 fR_12_7 hE.2.1 rfl (em_r_1 hE) ?_
          refine us_aload_n hR dX11_write_130 rfl ?_
          refine us_getIx hR dX11_write_131 fR_12_189 hE.2.1 rfl (RepM_f hPa 0) ?_
          refine us_lload hR dX11_write_134 rfl ?_
          refine us_l2i hR dX11_write_136 ?_
          refine us_i2c hR dX11_write_137 ?_
          have hg := gd_c ho
          rw [gd_e hg] at ho
          refine us_castoreM hE hPa (em_q_1 hE) hR dX11_write_138 hg (fun I3 s3 hs3 hP3 hF3 => ?_)
          rw [← hs3, bS_eq] at ho
          have hF3 := hFa.tr hF3
          refine us_aload_n hR dX11_write_139 rfl ?_
          refine us_dup hR dX11_write_140 rfl ?_
          refine us_getIx hR dX11_write_141 fR_12_189 hE.2.1 rfl (RepM_f hP3 0) ?_
          refine us_iconstC hR dX11_write_144 (c := 1) (by decide) ?_
          refine us_iadd hR dX11_write_145 ?_
          refine us_putIM hE hP3 0 hR dX11_write_146 fR_12_189 (Or.inl rfl) rfl rfl (fun I4 s4 hs4 hP4 hF4 => ?_)
          rw [← hs4, bS_eq] at ho
          have hF4 := hF3.tr hF4
          refine us_iincC hR dX11_write_149 rfl (Nat.le_of_ble_eq_true rfl) (c := 1) (by decide) ?_
          refine us_goto hR dX11_write_152 99 (by decide) ?_
          exact ih99 l1 l3 l4 (l5 + 1) _ s4 I4 _ _ hP4 hF4 ho
  have h12006_L8 : ∀ (n : Nat) (l1 : Int64) (l3 : Int32) (l4 : Int32) (l5 : Int32) (w6 : Option Value) (s : Mx) (Ia : Nat → Nat → Int32) (bc bs : Nat) (hPa : RepM Ia ad s) (hFa : FrM ad I Ia) (ho : f_12006_L8 n l1 l3 l4 l5 s = some o), R 8 [some (.ref (ad 0)), some (.long l1), none, some (.int l3), some (.int l4), some (.int l5), w6, none] [] (gW G Ia) bc bs := by
    intro n
    induction n with
    | zero => intro l1 l3 l4 l5 w6 s Ia bc bs  hPa hFa ho; exact absurd ho (by intro hc; cases hc)
    | succ n8 ih8 =>
      have h12006_J45 : ∀ (l1 : Int64) (l3 : Int32) (l4 : Int32) (l5 : Int32) (l6 : Int64) (k0 : Int32)  (s : Mx) (Ia : Nat → Nat → Int32) (bc bs : Nat) (hPa : RepM Ia ad s) (hFa : FrM ad I Ia) (ho : f_12006_J45 (f_12006_L8 n8) l1 l3 l4 l5 l6 k0 s = some o), R 45 [some (.ref (ad 0)), some (.long l1), none, some (.int l3), some (.int l4), some (.int l5), some (.long l6), none] [.int k0] (gW G Ia) bc bs := by
        intro l1 l3 l4 l5 l6 k0  s Ia bc bs  hPa hFa ho
        unfold f_12006_J45 at ho
        refine us_istore_n hR dX11_write_45 (Nat.le_of_ble_eq_true rfl) ?_
        refine us_iload hR dX11_write_46 rfl ?_
        refine us_lload hR dX11_write_48 rfl ?_
        refine us_lconstC hR dX11_write_50 (c := 0) (by decide) ?_
        refine us_lcmp hR dX11_write_51 ?_
        refine us_if_ne hR dX11_write_52 59 (by decide) (fun c5 => ?_) (fun c5 => ?_)
        · rw [if_neg c5] at ho
          refine us_iconstC hR dX11_write_59 (c := 1) (by decide) ?_
          refine us_iadd hR dX11_write_60 ?_
          refine us_istore hR dX11_write_61 (Nat.le_of_ble_eq_true rfl) ?_
          refine us_iincC hR dX11_write_63 rfl (Nat.le_of_ble_eq_true rfl) (c := 1) (by decide) ?_
          refine us_goto hR dX11_write_66 8 (by decide) ?_
          exact ih8 l1 k0 (l4 + 1) (l5 + 1) _ s Ia _ _ hPa hFa ho
        · rw [if_pos c5] at ho
          refine us_iconstC hR dX11_write_55 (c := 0) (by decide) ?_
          refine us_goto hR dX11_write_56 60 (by decide) ?_
          refine us_iadd hR dX11_write_60 ?_
          refine us_istore hR dX11_write_61 (Nat.le_of_ble_eq_true rfl) ?_
          refine us_iincC hR dX11_write_63 rfl (Nat.le_of_ble_eq_true rfl) (c := 1) (by decide) ?_
          refine us_goto hR dX11_write_66 8 (by decide) ?_
          exact ih8 l1 k0 (l4 + 0) (l5 + 1) _ s Ia _ _ hPa hFa ho
      have h12006_J44 : ∀ (l1 : Int64) (l3 : Int32) (l4 : Int32) (l5 : Int32) (l6 : Int64)  (s : Mx) (Ia : Nat → Nat → Int32) (bc bs : Nat) (hPa : RepM Ia ad s) (hFa : FrM ad I Ia) (ho : f_12006_J44 (f_12006_L8 n8) l1 l3 l4 l5 l6 s = some o), R 44 [some (.ref (ad 0)), some (.long l1), none, some (.int l3), some (.int l4), some (.int l5), some (.long l6), none] [] (gW G Ia) bc bs := by
        intro l1 l3 l4 l5 l6  s Ia bc bs  hPa hFa ho
        unfold f_12006_J44 at ho
        refine us_iconstC hR dX11_write_44 (c := 0) (by decide) ?_
        exact h12006_J45 l1 l3 l4 l5 l6 0  s Ia _ _ hPa hFa ho
      intro l1 l3 l4 l5 w6 s Ia bc bs  hPa hFa ho
      rw [f_12006_L8] at ho
      refine us_iload hR dX11_write_8 rfl ?_
      refine us_bipushC hR dX11_write_10 (c := 8) (by decide) ?_
      refine us_icmp_ge hR dX11_write_12 69 (by decide) (fun c6 => ?_) (fun c6 => ?_)
      · rw [if_pos c6] at ho
        refine us_aload_n hR dX11_write_69 rfl ?_
        refine us_iload_n hR dX11_write_70 rfl ?_
        refine us_iconstC hR dX11_write_71 (c := 1) (by decide) ?_
        refine us_iconstC hR dX11_write_72 (c := 1) (by decide) ?_
        refine us_callV hR dX11_write_73 (y := 12003) (by decide +kernel) (by decide) (J := i12003) rfl rfl rfl rfl hE.2.1 rfl (Nat.le_of_ble_eq_true rfl) (Nat.zero_le _) (Nat.zero_le _) ?_
        refine sp_12003 hE hPa  (fun I7 q7 hs7 hb7 hP7 hF7 => ?_)
        rw [← hs7] at ho
        obtain ⟨s7, r7⟩ := q7
        rw [bT_eq] at ho
        have hF7 := hFa.tr hF7
        refine us_if_ne hR dX11_write_76 81 (by decide) (fun c8 => ?_) (fun c8 => ?_)
        · rw [if_neg c8] at ho
          refine us_aload_n hR dX11_write_81 rfl ?_
          refine us_getIx hR dX11_write_82 fR_12_189 hE.2.1 rfl (RepM_f hP7 0) ?_
          refine us_iload hR dX11_write_85 rfl ?_
          refine us_iadd hR dX11_write_87 ?_
          refine us_sipushC hR dX11_write_88 (c := 300) (by decide) ?_
          refine us_icmp_le hR dX11_write_91 96 (by decide) (fun c9 => ?_) (fun c9 => ?_)
          · rw [if_pos c9] at ho
            refine us_iconstC hR dX11_write_96 (c := 0) (by decide) ?_
            refine us_istore hR dX11_write_97 (Nat.le_of_ble_eq_true rfl) ?_
            exact h12006_L99 _ l1 l3 l4 0 _ s7 I7 _ _ hP7 hF7 ho
          · rw [if_neg c9] at ho
            refine us_iconstC hR dX11_write_94 (c := (-1)) (by decide) ?_
            refine us_iret hR dX11_write_95 rfl rfl ?_
            cases ho
            exact h2 _ hP7 hF7
        · rw [if_pos c8] at ho
          refine us_iconstC hR dX11_write_79 (c := 0) (by decide) ?_
          refine us_iret hR dX11_write_80 rfl rfl ?_
          cases ho
          exact h2 _ hP7 hF7
      · rw [if_neg c6] at ho
        refine us_lload_n hR dX11_write_15 rfl ?_
        refine us_bipushC hR dX11_write_16 (c := 8) (by decide) ?_
        refine us_iload hR dX11_write_18 rfl ?_
        refine us_imul hR dX11_write_20 ?_
        refine us_lushr hR dX11_write_21 ?_
        refine us_ldc2_w hR dX11_write_22 (v := 255) (by decide +kernel) ?_
        refine us_land hR dX11_write_25 ?_
        refine us_lstore hR dX11_write_26 (Nat.le_of_ble_eq_true rfl) ?_
        refine us_iload_n hR dX11_write_28 rfl ?_
        refine us_if_eq hR dX11_write_29 44 (by decide) (fun c10 => ?_) (fun c10 => ?_)
        · rw [if_pos c10] at ho
          exact h12006_J44 l1 l3 l4 l5 ((l1.toUInt64 >>> ((8 * l5).toInt64.toUInt64 &&& Int64.toUInt64 63)).toInt64 &&& 255)  s Ia _ _ hPa hFa ho
        · rw [if_neg c10] at ho
          refine us_lload hR dX11_write_32 rfl ?_
          refine us_callS hR dX11_write_34 (y := 12005) (by decide +kernel) (by decide) (J := i12005) rfl rfl rfl rfl (rest := _) (Nat.le_of_ble_eq_true rfl) (Nat.zero_le _) (Nat.zero_le _) ?_
          refine sp_12005 hE hPa  (fun hb11 => ?_)
          refine us_if_eq hR dX11_write_37 44 (by decide) (fun c12 => ?_) (fun c12 => ?_)
          · rw [if_pos c12] at ho
            exact h12006_J44 l1 l3 l4 l5 ((l1.toUInt64 >>> ((8 * l5).toInt64.toUInt64 &&& Int64.toUInt64 63)).toInt64 &&& 255)  s Ia _ _ hPa hFa ho
          · rw [if_neg c12] at ho
            refine us_iconstC hR dX11_write_40 (c := 1) (by decide) ?_
            refine us_goto hR dX11_write_41 45 (by decide) ?_
            exact h12006_J45 l1 l3 l4 l5 ((l1.toUInt64 >>> ((8 * l5).toInt64.toUInt64 &&& Int64.toUInt64 63)).toInt64 &&& 255) 1  s Ia _ _ hPa hFa ho
  refine us_iconstC hR dX11_write_0 (c := 1) (by decide) ?_
  refine us_istore_n hR dX11_write_1 (Nat.le_of_ble_eq_true rfl) ?_
  refine us_iconstC hR dX11_write_2 (c := 0) (by decide) ?_
  refine us_istore hR dX11_write_3 (Nat.le_of_ble_eq_true rfl) ?_
  refine us_iconstC hR dX11_write_5 (c := 0) (by decide) ?_
  refine us_istore hR dX11_write_6 (Nat.le_of_ble_eq_true rfl) ?_
  exact h12006_L8 _ x0 1 0 0 _ s I _ _ hP hF ho
def f_12007  (s : Mx) : Mx × Int32 :=
  bS (mp s 0 0) fun s1 =>
  bT (f_12004 (mf s 0) s1) fun s2 r2 =>
  (s2, r2)
theorem sp_12007 {d : Nat} {G : ab_G} {ad : Nat → Nat} {I : Nat → Nat → Int32} {s : Mx} {P : ab_Pq} {X : ab_Xq} (hE : EM G ad) (hP : RepM I ad s)   (h : ∀ I1 o, o = f_12007 s → RepM I1 ad o.1 → FrM ad I I1 → P (gW G I1) (some (.int o.2))) : ab_Gam (d + 2) 12007 [.ref (ad 0)] (gW G I) P X := by
  obtain ⟨o, ho⟩ : ∃ o, o = f_12007 s := ⟨_, rfl⟩
  have h2 := fun I1 => h I1 o ho
  have hF : FrM ad I I := FrM_rfl
  unfold f_12007 at ho
  refine ab_enter (I := i12007) rfl (Nat.le_of_ble_eq_true rfl) (fun R hR => ?_)
  refine us_aload_n hR dX11_wipe_0 rfl ?_
  refine us_getIx hR dX11_wipe_1 fR_12_189 hE.2.1 rfl (RepM_f hP 0) ?_
  refine us_istore_n hR dX11_wipe_4 (Nat.le_of_ble_eq_true rfl) ?_
  refine us_aload_n hR dX11_wipe_5 rfl ?_
  refine us_iconstC hR dX11_wipe_6 (c := 0) (by decide) ?_
  refine us_putIM hE hP 0 hR dX11_wipe_7 fR_12_189 (Or.inl rfl) rfl rfl (fun I1 s1 hs1 hP1 hF1 => ?_)
  rw [← hs1, bS_eq] at ho
  have hF1 := hF.tr hF1
  refine us_aload_n hR dX11_wipe_10 rfl ?_
  refine us_iload_n hR dX11_wipe_11 rfl ?_
  refine us_callV hR dX11_wipe_12 (y := 12004) (by decide +kernel) (by decide) (J := i12004) rfl rfl rfl rfl hE.2.1 rfl (Nat.le_of_ble_eq_true rfl) (Nat.zero_le _) (Nat.zero_le _) ?_
  refine sp_12004 hE hP1  (fun I2 q2 hs2 hP2 hF2 => ?_)
  rw [← hs2] at ho
  obtain ⟨s2, r2⟩ := q2
  rw [bT_eq] at ho
  have hF2 := hF1.tr hF2
  refine us_iret hR dX11_wipe_15 rfl rfl ?_
  subst ho
  exact h2 _ hP2 hF2
def f_12008 (x0 : Int32) (s : Mx) : Mx × Int32 :=
  bT (f_12003 (f_12002 x0.toInt64 1 ((mf s 0).toInt64) s) 1 1 s) fun s2 r2 =>
  if r2 = 0 then
    (s2, 0)
  else
    bS (mp s2 0 ((mf s2 0) - x0)) fun s4 =>
    (s4, (mf s4 0))
theorem sp_12008 {d : Nat} {G : ab_G} {ad : Nat → Nat} {I : Nat → Nat → Int32} {s : Mx} {P : ab_Pq} {X : ab_Xq} (hE : EM G ad) (hP : RepM I ad s) {x0 : Int32}  (h : ∀ I1 o, o = f_12008 x0 s → RepM I1 ad o.1 → FrM ad I I1 → P (gW G I1) (some (.int o.2))) : ab_Gam (d + 2) 12008 [.ref (ad 0), .int x0] (gW G I) P X := by
  obtain ⟨o, ho⟩ : ∃ o, o = f_12008 x0 s := ⟨_, rfl⟩
  have h2 := fun I1 => h I1 o ho
  have hF : FrM ad I I := FrM_rfl
  unfold f_12008 at ho
  refine ab_enter (I := i12008) rfl (Nat.le_of_ble_eq_true rfl) (fun R hR => ?_)
  refine us_aload_n hR dX11_erase_0 rfl ?_
  refine us_iload_n hR dX11_erase_1 rfl ?_
  refine us_i2l hR dX11_erase_2 ?_
  refine us_lconstC hR dX11_erase_3 (c := 1) (by decide) ?_
  refine us_aload_n hR dX11_erase_4 rfl ?_
  refine us_getIx hR dX11_erase_5 fR_12_189 hE.2.1 rfl (RepM_f hP 0) ?_
  refine us_i2l hR dX11_erase_8 ?_
  refine us_callS hR dX11_erase_9 (y := 12002) (by decide +kernel) (by decide) (J := i12002) rfl rfl rfl rfl (rest := _) (Nat.le_of_ble_eq_true rfl) (Nat.zero_le _) (Nat.zero_le _) ?_
  refine sp_12002 hE hP  (fun hb1 => ?_)
  refine us_iconstC hR dX11_erase_12 (c := 1) (by decide) ?_
  refine us_iconstC hR dX11_erase_13 (c := 1) (by decide) ?_
  refine us_callV hR dX11_erase_14 (y := 12003) (by decide +kernel) (by decide) (J := i12003) rfl rfl rfl rfl hE.2.1 rfl (Nat.le_of_ble_eq_true rfl) (Nat.zero_le _) (Nat.zero_le _) ?_
  refine sp_12003 hE hP  (fun I2 q2 hs2 hb2 hP2 hF2 => ?_)
  rw [← hs2] at ho
  obtain ⟨s2, r2⟩ := q2
  rw [bT_eq] at ho
  have hF2 := hF.tr hF2
  refine us_if_ne hR dX11_erase_17 22 (by decide) (fun c3 => ?_) (fun c3 => ?_)
  · rw [if_neg c3] at ho
    refine us_aload_n hR dX11_erase_22 rfl ?_
    refine us_dup hR dX11_erase_23 rfl ?_
    refine us_getIx hR dX11_erase_24 fR_12_189 hE.2.1 rfl (RepM_f hP2 0) ?_
    refine us_iload_n hR dX11_erase_27 rfl ?_
    refine us_isub hR dX11_erase_28 ?_
    refine us_putIM hE hP2 0 hR dX11_erase_29 fR_12_189 (Or.inl rfl) rfl rfl (fun I4 s4 hs4 hP4 hF4 => ?_)
    rw [← hs4, bS_eq] at ho
    have hF4 := hF2.tr hF4
    refine us_aload_n hR dX11_erase_32 rfl ?_
    refine us_getIx hR dX11_erase_33 fR_12_189 hE.2.1 rfl (RepM_f hP4 0) ?_
    refine us_iret hR dX11_erase_36 rfl rfl ?_
    subst ho
    exact h2 _ hP4 hF4
  · rw [if_pos c3] at ho
    refine us_iconstC hR dX11_erase_20 (c := 0) (by decide) ?_
    refine us_iret hR dX11_erase_21 rfl rfl ?_
    subst ho
    exact h2 _ hP2 hF2
def f_12009  (s : Mx) : Mx × Int32 :=
  bT (f_12004 (mf s 0) s) fun s1 r1 =>
  (s1, r1)
theorem sp_12009 {d : Nat} {G : ab_G} {ad : Nat → Nat} {I : Nat → Nat → Int32} {s : Mx} {P : ab_Pq} {X : ab_Xq} (hE : EM G ad) (hP : RepM I ad s)   (h : ∀ I1 o, o = f_12009 s → RepM I1 ad o.1 → FrM ad I I1 → P (gW G I1) (some (.int o.2))) : ab_Gam (d + 2) 12009 [.ref (ad 0)] (gW G I) P X := by
  obtain ⟨o, ho⟩ : ∃ o, o = f_12009 s := ⟨_, rfl⟩
  have h2 := fun I1 => h I1 o ho
  have hF : FrM ad I I := FrM_rfl
  unfold f_12009 at ho
  refine ab_enter (I := i12009) rfl (Nat.le_of_ble_eq_true rfl) (fun R hR => ?_)
  refine us_aload_n hR dX11_length_0 rfl ?_
  refine us_aload_n hR dX11_length_1 rfl ?_
  refine us_getIx hR dX11_length_2 fR_12_189 hE.2.1 rfl (RepM_f hP 0) ?_
  refine us_callV hR dX11_length_5 (y := 12004) (by decide +kernel) (by decide) (J := i12004) rfl rfl rfl rfl hE.2.1 rfl (Nat.le_of_ble_eq_true rfl) (Nat.zero_le _) (Nat.zero_le _) ?_
  refine sp_12004 hE hP  (fun I1 q1 hs1 hP1 hF1 => ?_)
  rw [← hs1] at ho
  obtain ⟨s1, r1⟩ := q1
  rw [bT_eq] at ho
  have hF1 := hF.tr hF1
  refine us_iret hR dX11_length_8 rfl rfl ?_
  subst ho
  exact h2 _ hP1 hF1
def f_12010 (x0 : Int32) (s : Mx) : Option (Mx × Int32) :=
  bT (f_12003 (f_12002 x0.toInt64 0 (((mf s 0) - 1).toInt64) s) 1 1 s) fun s2 r2 =>
  if r2 = 0 then
    gd (nch 32) <|
    some (s2, 32)
  else
    gd (vi x0 300) <|
    gd (nch (mg s2 1 x0)) <|
    some (s2, (mg s2 1 x0))
theorem sp_12010 {d : Nat} {G : ab_G} {ad : Nat → Nat} {I : Nat → Nat → Int32} {s : Mx} {P : ab_Pq} {X : ab_Xq} (hE : EM G ad) (hP : RepM I ad s) {x0 : Int32}  {o : Mx × Int32} (ho : f_12010 x0 s = some o) (h : ∀ I1, RepM I1 ad o.1 → FrM ad I I1 → P (gW G I1) (some (.int o.2))) : ab_Gam (d + 2) 12010 [.ref (ad 0), .int x0] (gW G I) P X := by
  have h2 := h
  have hF : FrM ad I I := FrM_rfl
  unfold f_12010 at ho
  refine ab_enter (I := i12010) rfl (Nat.le_of_ble_eq_true rfl) (fun R hR => ?_)
  refine us_aload_n hR dX11_signAt_0 rfl ?_
  refine us_iload_n hR dX11_signAt_1 rfl ?_
  refine us_i2l hR dX11_signAt_2 ?_
  refine us_lconstC hR dX11_signAt_3 (c := 0) (by decide) ?_
  refine us_aload_n hR dX11_signAt_4 rfl ?_
  refine us_getIx hR dX11_signAt_5 fR_12_189 hE.2.1 rfl (RepM_f hP 0) ?_
  refine us_iconstC hR dX11_signAt_8 (c := 1) (by decide) ?_
  refine us_isub hR dX11_signAt_9 ?_
  refine us_i2l hR dX11_signAt_10 ?_
  refine us_callS hR dX11_signAt_11 (y := 12002) (by decide +kernel) (by decide) (J := i12002) rfl rfl rfl rfl (rest := _) (Nat.le_of_ble_eq_true rfl) (Nat.zero_le _) (Nat.zero_le _) ?_
  refine sp_12002 hE hP  (fun hb1 => ?_)
  refine us_iconstC hR dX11_signAt_14 (c := 1) (by decide) ?_
  refine us_iconstC hR dX11_signAt_15 (c := 1) (by decide) ?_
  refine us_callV hR dX11_signAt_16 (y := 12003) (by decide +kernel) (by decide) (J := i12003) rfl rfl rfl rfl hE.2.1 rfl (Nat.le_of_ble_eq_true rfl) (Nat.zero_le _) (Nat.zero_le _) ?_
  refine sp_12003 hE hP  (fun I2 q2 hs2 hb2 hP2 hF2 => ?_)
  rw [← hs2] at ho
  obtain ⟨s2, r2⟩ := q2
  rw [bT_eq] at ho
  have hF2 := hF.tr hF2
  refine us_if_eq hR dX11_signAt_19 31 (by decide) (fun c3 => ?_) (fun c3 => ?_)
  · rw [if_pos c3] at ho
    refine us_bipushC hR dX11_signAt_31 (c := 32) (by decide) ?_
    have hg := gd_c ho
    rw [gd_e hg] at ho
    refine us_iret hR dX11_signAt_33 rfl (nar_ch hg) ?_
    cases ho
    exact h2 _ hP2 hF2
  · rw [if_neg c3] at ho
    refine us_aload_n hR dX11_signAt_22 rfl ?_
    refine us_getR hR dX11_signAt_23 fR_12_7 hE.2.1 rfl (em_r_1 hE) ?_
    refine us_iload_n hR dX11_signAt_26 rfl ?_
    have hg := gd_c ho
    rw [gd_e hg] at ho
    refine us_caloadM hE hP2 (em_q_1 hE) hR dX11_signAt_27 hg ?_
    refine us_goto hR dX11_signAt_28 33 (by decide) ?_
    have hg := gd_c ho
    rw [gd_e hg] at ho
    refine us_iret hR dX11_signAt_33 rfl (nar_ch hg) ?_
    cases ho
    exact h2 _ hP2 hF2
def f_12011 (x0 : Int32) (s : Mx) : Int32 :=
  if x0 < 48 then
    0
  else
    if 57 < x0 then
      0
    else
      1
theorem sp_12011 {d : Nat} {G : ab_G} {ad : Nat → Nat} {I : Nat → Nat → Int32} {s : Mx} {P : ab_Pq} {X : ab_Xq} (hE : EM G ad) (hP : RepM I ad s) {x0 : Int32}  (h : (f_12011 x0 s = 0 ∨ f_12011 x0 s = 1) → P (gW G I) (some (.int (f_12011 x0 s)))) : ab_Gam (d + 1) 12011 [.int x0] (gW G I) P X := by
  obtain ⟨o, ho⟩ : ∃ o, o = f_12011 x0 s := ⟨_, rfl⟩
  rw [← ho] at h
  have h2 := h
  have hF : FrM ad I I := FrM_rfl
  unfold f_12011 at ho
  refine ab_enter (I := i12011) rfl (Nat.le_of_ble_eq_true rfl) (fun R hR => ?_)
  refine us_iload_n hR dX11_isDigit_0 rfl ?_
  refine us_bipushC hR dX11_isDigit_1 (c := 48) (by decide) ?_
  refine us_icmp_lt hR dX11_isDigit_3 16 (by decide) (fun c1 => ?_) (fun c1 => ?_)
  · rw [if_pos c1] at ho
    refine us_iconstC hR dX11_isDigit_16 (c := 0) (by decide) ?_
    refine us_iret hR dX11_isDigit_17 rfl (nar01 (Or.inl rfl)) ?_
    subst ho
    exact h2 (Or.inl rfl) 
  · rw [if_neg c1] at ho
    refine us_iload_n hR dX11_isDigit_6 rfl ?_
    refine us_bipushC hR dX11_isDigit_7 (c := 57) (by decide) ?_
    refine us_icmp_gt hR dX11_isDigit_9 16 (by decide) (fun c2 => ?_) (fun c2 => ?_)
    · rw [if_pos c2] at ho
      refine us_iconstC hR dX11_isDigit_16 (c := 0) (by decide) ?_
      refine us_iret hR dX11_isDigit_17 rfl (nar01 (Or.inl rfl)) ?_
      subst ho
      exact h2 (Or.inl rfl) 
    · rw [if_neg c2] at ho
      refine us_iconstC hR dX11_isDigit_12 (c := 1) (by decide) ?_
      refine us_goto hR dX11_isDigit_13 17 (by decide) ?_
      refine us_iret hR dX11_isDigit_17 rfl (nar01 (Or.inr rfl)) ?_
      subst ho
      exact h2 (Or.inr rfl) 
def f_12012 (x0 : Int32) (s : Mx) : Int32 :=
  if x0 < 97 then
    0
  else
    if 122 < x0 then
      0
    else
      1
theorem sp_12012 {d : Nat} {G : ab_G} {ad : Nat → Nat} {I : Nat → Nat → Int32} {s : Mx} {P : ab_Pq} {X : ab_Xq} (hE : EM G ad) (hP : RepM I ad s) {x0 : Int32}  (h : (f_12012 x0 s = 0 ∨ f_12012 x0 s = 1) → P (gW G I) (some (.int (f_12012 x0 s)))) : ab_Gam (d + 1) 12012 [.int x0] (gW G I) P X := by
  obtain ⟨o, ho⟩ : ∃ o, o = f_12012 x0 s := ⟨_, rfl⟩
  rw [← ho] at h
  have h2 := h
  have hF : FrM ad I I := FrM_rfl
  unfold f_12012 at ho
  refine ab_enter (I := i12012) rfl (Nat.le_of_ble_eq_true rfl) (fun R hR => ?_)
  refine us_iload_n hR dX11_isLetter_0 rfl ?_
  refine us_bipushC hR dX11_isLetter_1 (c := 97) (by decide) ?_
  refine us_icmp_lt hR dX11_isLetter_3 16 (by decide) (fun c1 => ?_) (fun c1 => ?_)
  · rw [if_pos c1] at ho
    refine us_iconstC hR dX11_isLetter_16 (c := 0) (by decide) ?_
    refine us_iret hR dX11_isLetter_17 rfl (nar01 (Or.inl rfl)) ?_
    subst ho
    exact h2 (Or.inl rfl) 
  · rw [if_neg c1] at ho
    refine us_iload_n hR dX11_isLetter_6 rfl ?_
    refine us_bipushC hR dX11_isLetter_7 (c := 122) (by decide) ?_
    refine us_icmp_gt hR dX11_isLetter_9 16 (by decide) (fun c2 => ?_) (fun c2 => ?_)
    · rw [if_pos c2] at ho
      refine us_iconstC hR dX11_isLetter_16 (c := 0) (by decide) ?_
      refine us_iret hR dX11_isLetter_17 rfl (nar01 (Or.inl rfl)) ?_
      subst ho
      exact h2 (Or.inl rfl) 
    · rw [if_neg c2] at ho
      refine us_iconstC hR dX11_isLetter_12 (c := 1) (by decide) ?_
      refine us_goto hR dX11_isLetter_13 17 (by decide) ?_
      refine us_iret hR dX11_isLetter_17 rfl (nar01 (Or.inr rfl)) ?_
      subst ho
      exact h2 (Or.inr rfl) 
def f_12013_L2  : Nat → Int32 → Int32 → Mx → Option Int32
  | 0, _, _, _ => none
  | n + 1, l1, l2, s =>
    if (mf s 4) ≤ l2 then
      some l2
    else
      gd (vi l2 300) <|
      if (mg s 3 l2) = 32 then
        f_12013_L2 n l1 (l2 + 1) s
      else
        gd (vi l2 300) <|
        if (mg s 3 l2) = 10 then
          f_12013_L2 n l1 (l2 + 1) s
        else
          some l2
def f_12013 (x0 : Int32) (s : Mx) : Option Int32 :=
  f_12013_L2 1000 x0 x0 s
theorem sp_12013 {d : Nat} {G : ab_G} {ad : Nat → Nat} {I : Nat → Nat → Int32} {s : Mx} {P : ab_Pq} {X : ab_Xq} (hE : EM G ad) (hP : RepM I ad s) {x0 : Int32}  {o : Int32} (ho : f_12013 x0 s = some o) (h : P (gW G I) (some (.int o))) : ab_Gam (d + 1) 12013 [.ref (ad 0), .int x0] (gW G I) P X := by
  have h2 := h
  have hF : FrM ad I I := FrM_rfl
  unfold f_12013 at ho
  refine ab_enter (I := i12013) rfl (Nat.le_of_ble_eq_true rfl) (fun R hR => ?_)
  have h12013_L2 : ∀ (n : Nat) (l1 : Int32) (l2 : Int32)  (bc bs : Nat) (ho : f_12013_L2 n l1 l2 s = some o), R 2 [some (.ref (ad 0)), some (.int l1), some (.int l2)] [] (gW G I) bc bs := by
    intro n
    induction n with
    | zero => intro l1 l2  bc bs  ho; exact absurd ho (by intro hc; cases hc)
    | succ n2 ih2 =>
      intro l1 l2  bc bs  ho
      rw [f_12013_L2] at ho
      refine us_iload_n hR dX11_skips_2 rfl ?_
      refine us_aload_n hR dX11_skips_3 rfl ?_
      refine us_getIx hR dX11_skips_4 fR_12_196 hE.2.1 rfl (RepM_f hP 4) ?_
      refine us_icmp_ge hR dX11_skips_7 38 (by decide) (fun c1 => ?_) (fun c1 => ?_)
      · rw [if_pos c1] at ho
        refine us_iload_n hR dX11_skips_38 rfl ?_
        refine us_iret hR dX11_skips_39 rfl rfl ?_
        cases ho
        exact h2
      · rw [if_neg c1] at ho
        refine us_aload_n hR dX11_skips_10 rfl ?_
        refine us_getR hR dX11_skips_11 fR_12_16 hE.2.1 rfl (em_r_3 hE) ?_
        refine us_iload_n hR dX11_skips_14 rfl ?_
        have hg := gd_c ho
        rw [gd_e hg] at ho
        refine us_caloadM hE hP (em_q_3 hE) hR dX11_skips_15 hg ?_
        refine us_bipushC hR dX11_skips_16 (c := 32) (by decide) ?_
        refine us_icmp_eq hR dX11_skips_18 32 (by decide) (fun c2 => ?_) (fun c2 => ?_)
        · rw [if_pos c2] at ho
          refine us_iincC hR dX11_skips_32 rfl (Nat.le_of_ble_eq_true rfl) (c := 1) (by decide) ?_
          refine us_goto hR dX11_skips_35 2 (by decide) ?_
          exact ih2 l1 (l2 + 1)  _ _ ho
        · rw [if_neg c2] at ho
          refine us_aload_n hR dX11_skips_21 rfl ?_
          refine us_getR hR dX11_skips_22 fR_12_16 hE.2.1 rfl (em_r_3 hE) ?_
          refine us_iload_n hR dX11_skips_25 rfl ?_
          have hg := gd_c ho
          rw [gd_e hg] at ho
          refine us_caloadM hE hP (em_q_3 hE) hR dX11_skips_26 hg ?_
          refine us_bipushC hR dX11_skips_27 (c := 10) (by decide) ?_
          refine us_icmp_ne hR dX11_skips_29 38 (by decide) (fun c3 => ?_) (fun c3 => ?_)
          · rw [if_neg c3] at ho
            refine us_iload_n hR dX11_skips_38 rfl ?_
            refine us_iret hR dX11_skips_39 rfl rfl ?_
            cases ho
            exact h2
          · rw [if_pos c3] at ho
            refine us_iincC hR dX11_skips_32 rfl (Nat.le_of_ble_eq_true rfl) (c := 1) (by decide) ?_
            refine us_goto hR dX11_skips_35 2 (by decide) ?_
            exact ih2 l1 (l2 + 1)  _ _ ho
  refine us_iload_n hR dX11_skips_0 rfl ?_
  refine us_istore_n hR dX11_skips_1 (Nat.le_of_ble_eq_true rfl) ?_
  exact h12013_L2 _ x0 x0  _ _ ho
def f_12014  (s : Mx) : Option Int32 :=
  bP (f_12013 (mf s 7) s) fun r1 =>
  if (mf s 4) ≤ r1 then
    some 0
  else
    gd (vi r1 300) <|
    if (mg s 3 r1) = 40 then
      some 1
    else
      some 0
theorem sp_12014 {d : Nat} {G : ab_G} {ad : Nat → Nat} {I : Nat → Nat → Int32} {s : Mx} {P : ab_Pq} {X : ab_Xq} (hE : EM G ad) (hP : RepM I ad s)   {o : Int32} (ho : f_12014 s = some o) (h : (o = 0 ∨ o = 1) → P (gW G I) (some (.int o))) : ab_Gam (d + 2) 12014 [.ref (ad 0)] (gW G I) P X := by
  have h2 := h
  have hF : FrM ad I I := FrM_rfl
  unfold f_12014 at ho
  refine ab_enter (I := i12014) rfl (Nat.le_of_ble_eq_true rfl) (fun R hR => ?_)
  refine us_aload_n hR dX11_isOpenBehind_0 rfl ?_
  refine us_aload_n hR dX11_isOpenBehind_1 rfl ?_
  refine us_getIx hR dX11_isOpenBehind_2 fR_12_199 hE.2.1 rfl (RepM_f hP 7) ?_
  refine us_callV hR dX11_isOpenBehind_5 (y := 12013) (by decide +kernel) (by decide) (J := i12013) rfl rfl rfl rfl hE.2.1 rfl (Nat.le_of_ble_eq_true rfl) (Nat.zero_le _) (Nat.zero_le _) ?_
  obtain ⟨r1, hr1⟩ := bP_ex ho
  replace ho := bP_go ho hr1
  refine sp_12013 hE hP  hr1 ?_
  refine us_istore_n hR dX11_isOpenBehind_8 (Nat.le_of_ble_eq_true rfl) ?_
  refine us_iload_n hR dX11_isOpenBehind_9 rfl ?_
  refine us_aload_n hR dX11_isOpenBehind_10 rfl ?_
  refine us_getIx hR dX11_isOpenBehind_11 fR_12_196 hE.2.1 rfl (RepM_f hP 4) ?_
  refine us_icmp_ge hR dX11_isOpenBehind_14 32 (by decide) (fun c2 => ?_) (fun c2 => ?_)
  · rw [if_pos c2] at ho
    refine us_iconstC hR dX11_isOpenBehind_32 (c := 0) (by decide) ?_
    refine us_iret hR dX11_isOpenBehind_33 rfl (nar01 (Or.inl rfl)) ?_
    cases ho
    exact h2 (Or.inl rfl) 
  · rw [if_neg c2] at ho
    refine us_aload_n hR dX11_isOpenBehind_17 rfl ?_
    refine us_getR hR dX11_isOpenBehind_18 fR_12_16 hE.2.1 rfl (em_r_3 hE) ?_
    refine us_iload_n hR dX11_isOpenBehind_21 rfl ?_
    have hg := gd_c ho
    rw [gd_e hg] at ho
    refine us_caloadM hE hP (em_q_3 hE) hR dX11_isOpenBehind_22 hg ?_
    refine us_bipushC hR dX11_isOpenBehind_23 (c := 40) (by decide) ?_
    refine us_icmp_ne hR dX11_isOpenBehind_25 32 (by decide) (fun c3 => ?_) (fun c3 => ?_)
    · rw [if_neg c3] at ho
      refine us_iconstC hR dX11_isOpenBehind_32 (c := 0) (by decide) ?_
      refine us_iret hR dX11_isOpenBehind_33 rfl (nar01 (Or.inl rfl)) ?_
      cases ho
      exact h2 (Or.inl rfl) 
    · rw [if_pos c3] at ho
      refine us_iconstC hR dX11_isOpenBehind_28 (c := 1) (by decide) ?_
      refine us_goto hR dX11_isOpenBehind_29 33 (by decide) ?_
      refine us_iret hR dX11_isOpenBehind_33 rfl (nar01 (Or.inr rfl)) ?_
      cases ho
      exact h2 (Or.inr rfl) 
def f_12015_J92  (l1 : Int64) (k0 : Int32) (s : Mx) : Option (Mx × Int32) :=
  bS (mp s 8 k0) fun s1 =>
  if (lg_cmp l1 2147483647) ≤ 0 then
    some (s1, 1)
  else
    some (s1, (-2))
def f_12015_J77  (l1 : Int64) (s : Mx) : Option (Mx × Int32) :=
  if (lg_cmp l1 2147483647) ≤ 0 then
    f_12015_J92 l1 l1.toInt32 s
  else
    f_12015_J92 l1 0 s
def f_12015_J63  (k2 : Int64 → Mx → Option (Mx × Int32)) (l1 : Int64) (k0 : Int64) (s : Mx) : Option (Mx × Int32) :=
  bS (mp s 7 ((mf s 7) + 1)) fun s4 =>
  k2 k0 s4
def f_12015_L2  : Nat → Int64 → Mx → Option (Mx × Int32)
  | 0, _, _ => none
  | n + 1, l1, s =>
    if (mf s 4) ≤ (mf s 7) then
      f_12015_J77 l1 s
    else
      gd (vi (mf s 7) 300) <|
      if (f_12011 (mg s 3 (mf s 7)) s) = 0 then
        f_12015_J77 l1 s
      else
        gd (vi (mf s 7) 300) <|
        if (lg_cmp ((l1 * 10) + ((mg s 3 (mf s 7)) - 48).toInt64) 9999999999) ≤ 0 then
          f_12015_J63 (f_12015_L2 n) ((l1 * 10) + ((mg s 3 (mf s 7)) - 48).toInt64) ((l1 * 10) + ((mg s 3 (mf s 7)) - 48).toInt64) s
        else
          f_12015_J63 (f_12015_L2 n) ((l1 * 10) + ((mg s 3 (mf s 7)) - 48).toInt64) 9999999999 s
def f_12015  (s : Mx) : Option (Mx × Int32) :=
  f_12015_L2 1000 0 s
theorem sp_12015 {d : Nat} {G : ab_G} {ad : Nat → Nat} {I : Nat → Nat → Int32} {s : Mx} {P : ab_Pq} {X : ab_Xq} (hE : EM G ad) (hP : RepM I ad s)   {o : Mx × Int32} (ho : f_12015 s = some o) (h : ∀ I1, RepM I1 ad o.1 → FrM ad I I1 → P (gW G I1) (some (.int o.2))) : ab_Gam (d + 2) 12015 [.ref (ad 0)] (gW G I) P X := by
  have h2 := h
  have hF : FrM ad I I := FrM_rfl
  unfold f_12015 at ho
  refine ab_enter (I := i12015) rfl (Nat.le_of_ble_eq_true rfl) (fun R hR => ?_)
  have h12015_J92 : ∀ (l1 : Int64) (k0 : Int32)  (s : Mx) (Ia : Nat → Nat → Int32) (bc bs : Nat) (hPa : RepM Ia ad s) (hFa : FrM ad I Ia) (ho : f_12015_J92 l1 k0 s = some o), R 92 [some (.ref (ad 0)), some (.long l1), none] [.int k0, .ref (ad 0)] (gW G Ia) bc bs := by
    intro l1 k0  s Ia bc bs  hPa hFa ho
    unfold f_12015_J92 at ho
    refine us_putIM hE hPa 8 hR dX11_number_92 fR_12_213 (Or.inl rfl) rfl rfl (fun I1 s1 hs1 hP1 hF1 => ?_)
    rw [← hs1, bS_eq] at ho
    have hF1 := hFa.tr hF1
    refine us_lload_n hR dX11_number_95 rfl ?_
    refine us_ldc2_w hR dX11_number_96 (v := 2147483647) (by decide +kernel) ?_
    refine us_lcmp hR dX11_number_99 ?_
    refine us_if_le hR dX11_number_100 108 (by decide) (fun c2 => ?_) (fun c2 => ?_)
    · rw [if_pos c2] at ho
      refine us_iconstC hR dX11_number_108 (c := 1) (by decide) ?_
      refine us_iret hR dX11_number_109 rfl rfl ?_
      cases ho
      exact h2 _ hP1 hF1
    · rw [if_neg c2] at ho
      refine us_bipushC hR dX11_number_103 (c := (-2)) (by decide) ?_
      refine us_goto hR dX11_number_105 109 (by decide) ?_
      refine us_iret hR dX11_number_109 rfl rfl ?_
      cases ho
      exact h2 _ hP1 hF1
  have h12015_J77 : ∀ (l1 : Int64)  (s : Mx) (Ia : Nat → Nat → Int32) (bc bs : Nat) (hPa : RepM Ia ad s) (hFa : FrM ad I Ia) (ho : f_12015_J77 l1 s = some o), R 77 [some (.ref (ad 0)), some (.long l1), none] [] (gW G Ia) bc bs := by
    intro l1  s Ia bc bs  hPa hFa ho
    unfold f_12015_J77 at ho
    refine us_aload_n hR dX11_number_77 rfl ?_
    refine us_lload_n hR dX11_number_78 rfl ?_
    refine us_ldc2_w hR dX11_number_79 (v := 2147483647) (by decide +kernel) ?_
    refine us_lcmp hR dX11_number_82 ?_
    refine us_if_le hR dX11_number_83 90 (by decide) (fun c3 => ?_) (fun c3 => ?_)
    · rw [if_pos c3] at ho
      refine us_lload_n hR dX11_number_90 rfl ?_
      refine us_l2i hR dX11_number_91 ?_
      exact h12015_J92 l1 l1.toInt32  s Ia _ _ hPa hFa ho
    · rw [if_neg c3] at ho
      refine us_iconstC hR dX11_number_86 (c := 0) (by decide) ?_
      refine us_goto hR dX11_number_87 92 (by decide) ?_
      exact h12015_J92 l1 0  s Ia _ _ hPa hFa ho
  have h12015_L2 : ∀ (n : Nat) (l1 : Int64)  (s : Mx) (Ia : Nat → Nat → Int32) (bc bs : Nat) (hPa : RepM Ia ad s) (hFa : FrM ad I Ia) (ho : f_12015_L2 n l1 s = some o), R 2 [some (.ref (ad 0)), some (.long l1), none] [] (gW G Ia) bc bs := by
    intro n
    induction n with
    | zero => intro l1  s Ia bc bs  hPa hFa ho; exact absurd ho (by intro hc; cases hc)
    | succ n2 ih2 =>
      have h12015_J63 : ∀ (l1 : Int64) (k0 : Int64)  (s : Mx) (Ia : Nat → Nat → Int32) (bc bs : Nat) (hPa : RepM Ia ad s) (hFa : FrM ad I Ia) (ho : f_12015_J63 (f_12015_L2 n2) l1 k0 s = some o), R 63 [some (.ref (ad 0)), some (.long l1), none] [.long k0] (gW G Ia) bc bs := by
        intro l1 k0  s Ia bc bs  hPa hFa ho
        unfold f_12015_J63 at ho
        refine us_lstore_n hR dX11_number_63 (Nat.le_of_ble_eq_true rfl) ?_
        refine us_aload_n hR dX11_number_64 rfl ?_
        refine us_dup hR dX11_number_65 rfl ?_
        refine us_getIx hR dX11_number_66 fR_12_199 hE.2.1 rfl (RepM_f hPa 7) ?_
        refine us_iconstC hR dX11_number_69 (c := 1) (by decide) ?_
        refine us_iadd hR dX11_number_70 ?_
        refine us_putIM hE hPa 7 hR dX11_number_71 fR_12_199 (Or.inl rfl) rfl rfl (fun I4 s4 hs4 hP4 hF4 => ?_)
        rw [← hs4, bS_eq] at ho
        have hF4 := hFa.tr hF4
        refine us_goto hR dX11_number_74 2 (by decide) ?_
        exact ih2 k0  s4 I4 _ _ hP4 hF4 ho
      intro l1  s Ia bc bs  hPa hFa ho
      rw [f_12015_L2] at ho
      refine us_aload_n hR dX11_number_2 rfl ?_
      refine us_getIx hR dX11_number_3 fR_12_199 hE.2.1 rfl (RepM_f hPa 7) ?_
      refine us_aload_n hR dX11_number_6 rfl ?_
      refine us_getIx hR dX11_number_7 fR_12_196 hE.2.1 rfl (RepM_f hPa 4) ?_
      refine us_icmp_ge hR dX11_number_10 77 (by decide) (fun c5 => ?_) (fun c5 => ?_)
      · rw [if_pos c5] at ho
        exact h12015_J77 l1  s Ia _ _ hPa hFa ho
      · rw [if_neg c5] at ho
        refine us_aload_n hR dX11_number_13 rfl ?_
        refine us_getR hR dX11_number_14 fR_12_16 hE.2.1 rfl (em_r_3 hE) ?_
        refine us_aload_n hR dX11_number_17 rfl ?_
        refine us_getIx hR dX11_number_18 fR_12_199 hE.2.1 rfl (RepM_f hPa 7) ?_
        have hg := gd_c ho
        rw [gd_e hg] at ho
        refine us_caloadM hE hPa (em_q_3 hE) hR dX11_number_21 hg ?_
        refine us_callS hR dX11_number_22 (y := 12011) (by decide +kernel) (by decide) (J := i12011) rfl rfl rfl rfl (rest := _) (Nat.le_of_ble_eq_true rfl) (Nat.zero_le _) (Nat.zero_le _) ?_
        refine sp_12011 hE hPa  (fun hb6 => ?_)
        refine us_if_eq hR dX11_number_25 77 (by decide) (fun c7 => ?_) (fun c7 => ?_)
        · rw [if_pos c7] at ho
          exact h12015_J77 l1  s Ia _ _ hPa hFa ho
        · rw [if_neg c7] at ho
          refine us_lload_n hR dX11_number_28 rfl ?_
          refine us_ldc2_w hR dX11_number_29 (v := 10) (by decide +kernel) ?_
          refine us_lmul hR dX11_number_32 ?_
          refine us_aload_n hR dX11_number_33 rfl ?_
          refine us_getR hR dX11_number_34 fR_12_16 hE.2.1 rfl (em_r_3 hE) ?_
          refine us_aload_n hR dX11_number_37 rfl ?_
          refine us_getIx hR dX11_number_38 fR_12_199 hE.2.1 rfl (RepM_f hPa 7) ?_
          have hg := gd_c ho
          rw [gd_e hg] at ho
          refine us_caloadM hE hPa (em_q_3 hE) hR dX11_number_41 hg ?_
          refine us_bipushC hR dX11_number_42 (c := 48) (by decide) ?_
          refine us_isub hR dX11_number_44 ?_
          refine us_i2l hR dX11_number_45 ?_
          refine us_ladd hR dX11_number_46 ?_
          refine us_lstore_n hR dX11_number_47 (Nat.le_of_ble_eq_true rfl) ?_
          refine us_lload_n hR dX11_number_48 rfl ?_
          refine us_ldc2_w hR dX11_number_49 (v := 9999999999) (by decide +kernel) ?_
          refine us_lcmp hR dX11_number_52 ?_
          refine us_if_le hR dX11_number_53 62 (by decide) (fun c8 => ?_) (fun c8 => ?_)
          · rw [if_pos c8] at ho
            refine us_lload_n hR dX11_number_62 rfl ?_
            exact h12015_J63 ((l1 * 10) + ((mg s 3 (mf s 7)) - 48).toInt64) ((l1 * 10) + ((mg s 3 (mf s 7)) - 48).toInt64)  s Ia _ _ hPa hFa ho
          · rw [if_neg c8] at ho
            refine us_ldc2_w hR dX11_number_56 (v := 9999999999) (by decide +kernel) ?_
            refine us_goto hR dX11_number_59 63 (by decide) ?_
            exact h12015_J63 ((l1 * 10) + ((mg s 3 (mf s 7)) - 48).toInt64) 9999999999  s Ia _ _ hPa hFa ho
  refine us_lconstC hR dX11_number_0 (c := 0) (by decide) ?_
  refine us_lstore_n hR dX11_number_1 (Nat.le_of_ble_eq_true rfl) ?_
  exact h12015_L2 _ 0  s I _ _ hP hF ho
def f_12016_J83  (l1 : Int64) (s : Mx) : Option (Mx × Int32) :=
  if (lg_cmp l1 201) = 0 then
    some (s, 4)
  else
    if (lg_cmp l1 183685) = 0 then
      some (s, 5)
    else
      if (lg_cmp l1 5645591) = 0 then
        some (s, 6)
      else
        if (lg_cmp l1 21167) = 0 then
          some (s, 7)
        else
          if (lg_cmp l1 457) = 0 then
            some (s, 8)
          else
            if (lg_cmp l1 6308) = 0 then
              some (s, 9)
            else
              if (lg_cmp l1 489345202) = 0 then
                some (s, 10)
              else
                some (s, 2)
def f_12016_J68  (k2 : Int64 → Mx → Option (Mx × Int32)) (l1 : Int64) (l3 : Int32) (k0 : Int64) (k1 : Int64) (s : Mx) : Option (Mx × Int32) :=
  bS (mp s 7 ((mf s 7) + 1)) fun s8 =>
  k2 (k1 + k0) s8
def f_12016_L2  : Nat → Int64 → Mx → Option (Mx × Int32)
  | 0, _, _ => none
  | n + 1, l1, s =>
    if (mf s 4) ≤ (mf s 7) then
      f_12016_J83 l1 s
    else
      gd (vi (mf s 7) 300) <|
      if (f_12012 (mg s 3 (mf s 7)) s) = 0 then
        f_12016_J83 l1 s
      else
        if 7 ≤ ((mf s 7) - (mf s 6)) then
          f_12016_J68 (f_12016_L2 n) l1 ((mf s 7) - (mf s 6)) 0 l1 s
        else
          gd (vi (mf s 7) 300) <|
          f_12016_J68 (f_12016_L2 n) l1 ((mf s 7) - (mf s 6)) ((((mg s 3 (mf s 7)) - 97) + 1).toInt64 <<< ((5 * ((mf s 7) - (mf s 6))).toInt64 &&& 63)) l1 s
def f_12016  (s : Mx) : Option (Mx × Int32) :=
  f_12016_L2 1000 0 s
theorem sp_12016 {d : Nat} {G : ab_G} {ad : Nat → Nat} {I : Nat → Nat → Int32} {s : Mx} {P : ab_Pq} {X : ab_Xq} (hE : EM G ad) (hP : RepM I ad s)   {o : Mx × Int32} (ho : f_12016 s = some o) (h : ∀ I1, RepM I1 ad o.1 → FrM ad I I1 → P (gW G I1) (some (.int o.2))) : ab_Gam (d + 2) 12016 [.ref (ad 0)] (gW G I) P X := by
  have h2 := h
  have hF : FrM ad I I := FrM_rfl
  unfold f_12016 at ho
  refine ab_enter (I := i12016) rfl (Nat.le_of_ble_eq_true rfl) (fun R hR => ?_)
  have h12016_J83 : ∀ (l1 : Int64) (w3 : Option Value) (s : Mx) (Ia : Nat → Nat → Int32) (bc bs : Nat) (hPa : RepM Ia ad s) (hFa : FrM ad I Ia) (ho : f_12016_J83 l1 s = some o), R 83 [some (.ref (ad 0)), some (.long l1), none, w3] [] (gW G Ia) bc bs := by
    intro l1 w3 s Ia bc bs  hPa hFa ho
    unfold f_12016_J83 at ho
    refine us_lload_n hR dX11_word_83 rfl ?_
    refine us_ldc2_w hR dX11_word_84 (v := 201) (by decide +kernel) ?_
    refine us_lcmp hR dX11_word_87 ?_
    refine us_if_ne hR dX11_word_88 93 (by decide) (fun c1 => ?_) (fun c1 => ?_)
    · rw [if_neg c1] at ho
      refine us_lload_n hR dX11_word_93 rfl ?_
      refine us_ldc2_w hR dX11_word_94 (v := 183685) (by decide +kernel) ?_
      refine us_lcmp hR dX11_word_97 ?_
      refine us_if_ne hR dX11_word_98 103 (by decide) (fun c2 => ?_) (fun c2 => ?_)
      · rw [if_neg c2] at ho
        refine us_lload_n hR dX11_word_103 rfl ?_
        refine us_ldc2_w hR dX11_word_104 (v := 5645591) (by decide +kernel) ?_
        refine us_lcmp hR dX11_word_107 ?_
        refine us_if_ne hR dX11_word_108 114 (by decide) (fun c3 => ?_) (fun c3 => ?_)
        · rw [if_neg c3] at ho
          refine us_lload_n hR dX11_word_114 rfl ?_
          refine us_ldc2_w hR dX11_word_115 (v := 21167) (by decide +kernel) ?_
          refine us_lcmp hR dX11_word_118 ?_
          refine us_if_ne hR dX11_word_119 125 (by decide) (fun c4 => ?_) (fun c4 => ?_)
          · rw [if_neg c4] at ho
            refine us_lload_n hR dX11_word_125 rfl ?_
            refine us_ldc2_w hR dX11_word_126 (v := 457) (by decide +kernel) ?_
            refine us_lcmp hR dX11_word_129 ?_
            refine us_if_ne hR dX11_word_130 136 (by decide) (fun c5 => ?_) (fun c5 => ?_)
            · rw [if_neg c5] at ho
              refine us_lload_n hR dX11_word_136 rfl ?_
              refine us_ldc2_w hR dX11_word_137 (v := 6308) (by decide +kernel) ?_
              refine us_lcmp hR dX11_word_140 ?_
              refine us_if_ne hR dX11_word_141 147 (by decide) (fun c6 => ?_) (fun c6 => ?_)
              · rw [if_neg c6] at ho
                refine us_lload_n hR dX11_word_147 rfl ?_
                refine us_ldc2_w hR dX11_word_148 (v := 489345202) (by decide +kernel) ?_
                refine us_lcmp hR dX11_word_151 ?_
                refine us_if_ne hR dX11_word_152 160 (by decide) (fun c7 => ?_) (fun c7 => ?_)
                · rw [if_neg c7] at ho
                  refine us_iconstC hR dX11_word_160 (c := 2) (by decide) ?_
                  refine us_iret hR dX11_word_161 rfl rfl ?_
                  cases ho
                  exact h2 _ hPa hFa
                · rw [if_pos c7] at ho
                  refine us_bipushC hR dX11_word_155 (c := 10) (by decide) ?_
                  refine us_goto hR dX11_word_157 161 (by decide) ?_
                  refine us_iret hR dX11_word_161 rfl rfl ?_
                  cases ho
                  exact h2 _ hPa hFa
              · rw [if_pos c6] at ho
                refine us_bipushC hR dX11_word_144 (c := 9) (by decide) ?_
                refine us_iret hR dX11_word_146 rfl rfl ?_
                cases ho
                exact h2 _ hPa hFa
            · rw [if_pos c5] at ho
              refine us_bipushC hR dX11_word_133 (c := 8) (by decide) ?_
              refine us_iret hR dX11_word_135 rfl rfl ?_
              cases ho
              exact h2 _ hPa hFa
          · rw [if_pos c4] at ho
            refine us_bipushC hR dX11_word_122 (c := 7) (by decide) ?_
            refine us_iret hR dX11_word_124 rfl rfl ?_
            cases ho
            exact h2 _ hPa hFa
        · rw [if_pos c3] at ho
          refine us_bipushC hR dX11_word_111 (c := 6) (by decide) ?_
          refine us_iret hR dX11_word_113 rfl rfl ?_
          cases ho
          exact h2 _ hPa hFa
      · rw [if_pos c2] at ho
        refine us_iconstC hR dX11_word_101 (c := 5) (by decide) ?_
        refine us_iret hR dX11_word_102 rfl rfl ?_
        cases ho
        exact h2 _ hPa hFa
    · rw [if_pos c1] at ho
      refine us_iconstC hR dX11_word_91 (c := 4) (by decide) ?_
      refine us_iret hR dX11_word_92 rfl rfl ?_
      cases ho
      exact h2 _ hPa hFa
  have h12016_L2 : ∀ (n : Nat) (l1 : Int64) (w3 : Option Value) (s : Mx) (Ia : Nat → Nat → Int32) (bc bs : Nat) (hPa : RepM Ia ad s) (hFa : FrM ad I Ia) (ho : f_12016_L2 n l1 s = some o), R 2 [some (.ref (ad 0)), some (.long l1), none, w3] [] (gW G Ia) bc bs := by
    intro n
    induction n with
    | zero => intro l1 w3 s Ia bc bs  hPa hFa ho; exact absurd ho (by intro hc; cases hc)
    | succ n2 ih2 =>
      have h12016_J68 : ∀ (l1 : Int64) (l3 : Int32) (k0 : Int64) (k1 : Int64)  (s : Mx) (Ia : Nat → Nat → Int32) (bc bs : Nat) (hPa : RepM Ia ad s) (hFa : FrM ad I Ia) (ho : f_12016_J68 (f_12016_L2 n2) l1 l3 k0 k1 s = some o), R 68 [some (.ref (ad 0)), some (.long l1), none, some (.int l3)] [.long k0, .long k1] (gW G Ia) bc bs := by
        intro l1 l3 k0 k1  s Ia bc bs  hPa hFa ho
        unfold f_12016_J68 at ho
        refine us_ladd hR dX11_word_68 ?_
        refine us_lstore_n hR dX11_word_69 (Nat.le_of_ble_eq_true rfl) ?_
        refine us_aload_n hR dX11_word_70 rfl ?_
        refine us_dup hR dX11_word_71 rfl ?_
        refine us_getIx hR dX11_word_72 fR_12_199 hE.2.1 rfl (RepM_f hPa 7) ?_
        refine us_iconstC hR dX11_word_75 (c := 1) (by decide) ?_
        refine us_iadd hR dX11_word_76 ?_
        refine us_putIM hE hPa 7 hR dX11_word_77 fR_12_199 (Or.inl rfl) rfl rfl (fun I8 s8 hs8 hP8 hF8 => ?_)
        rw [← hs8, bS_eq] at ho
        have hF8 := hFa.tr hF8
        refine us_goto hR dX11_word_80 2 (by decide) ?_
        exact ih2 (k1 + k0) _ s8 I8 _ _ hP8 hF8 ho
      intro l1 w3 s Ia bc bs  hPa hFa ho
      rw [f_12016_L2] at ho
      refine us_aload_n hR dX11_word_2 rfl ?_
      refine us_getIx hR dX11_word_3 fR_12_199 hE.2.1 rfl (RepM_f hPa 7) ?_
      refine us_aload_n hR dX11_word_6 rfl ?_
      refine us_getIx hR dX11_word_7 fR_12_196 hE.2.1 rfl (RepM_f hPa 4) ?_
      refine us_icmp_ge hR dX11_word_10 83 (by decide) (fun c9 => ?_) (fun c9 => ?_)
      · rw [if_pos c9] at ho
        exact h12016_J83 l1 _ s Ia _ _ hPa hFa ho
      · rw [if_neg c9] at ho
        refine us_aload_n hR dX11_word_13 rfl ?_
        refine us_getR hR dX11_word_14 fR_12_16 hE.2.1 rfl (em_r_3 hE) ?_
        refine us_aload_n hR dX11_word_17 rfl ?_
        refine us_getIx hR dX11_word_18 fR_12_199 hE.2.1 rfl (RepM_f hPa 7) ?_
        have hg := gd_c ho
        rw [gd_e hg] at ho
        refine us_caloadM hE hPa (em_q_3 hE) hR dX11_word_21 hg ?_
        refine us_callS hR dX11_word_22 (y := 12012) (by decide +kernel) (by decide) (J := i12012) rfl rfl rfl rfl (rest := _) (Nat.le_of_ble_eq_true rfl) (Nat.zero_le _) (Nat.zero_le _) ?_
        refine sp_12012 hE hPa  (fun hb10 => ?_)
        refine us_if_eq hR dX11_word_25 83 (by decide) (fun c11 => ?_) (fun c11 => ?_)
        · rw [if_pos c11] at ho
          exact h12016_J83 l1 _ s Ia _ _ hPa hFa ho
        · rw [if_neg c11] at ho
          refine us_aload_n hR dX11_word_28 rfl ?_
          refine us_getIx hR dX11_word_29 fR_12_199 hE.2.1 rfl (RepM_f hPa 7) ?_
          refine us_aload_n hR dX11_word_32 rfl ?_
          refine us_getIx hR dX11_word_33 fR_12_219 hE.2.1 rfl (RepM_f hPa 6) ?_
          refine us_isub hR dX11_word_36 ?_
          refine us_istore_n hR dX11_word_37 (Nat.le_of_ble_eq_true rfl) ?_
          refine us_lload_n hR dX11_word_38 rfl ?_
          refine us_iload_n hR dX11_word_39 rfl ?_
          refine us_bipushC hR dX11_word_40 (c := 7) (by decide) ?_
          refine us_icmp_ge hR dX11_word_42 67 (by decide) (fun c12 => ?_) (fun c12 => ?_)
          · rw [if_pos c12] at ho
            refine us_lconstC hR dX11_word_67 (c := 0) (by decide) ?_
            exact h12016_J68 l1 ((mf s 7) - (mf s 6)) 0 l1  s Ia _ _ hPa hFa ho
          · rw [if_neg c12] at ho
            refine us_aload_n hR dX11_word_45 rfl ?_
            refine us_getR hR dX11_word_46 fR_12_16 hE.2.1 rfl (em_r_3 hE) ?_
            refine us_aload_n hR dX11_word_49 rfl ?_
            refine us_getIx hR dX11_word_50 fR_12_199 hE.2.1 rfl (RepM_f hPa 7) ?_
            have hg := gd_c ho
            rw [gd_e hg] at ho
            refine us_caloadM hE hPa (em_q_3 hE) hR dX11_word_53 hg ?_
            refine us_bipushC hR dX11_word_54 (c := 97) (by decide) ?_
            refine us_isub hR dX11_word_56 ?_
            refine us_iconstC hR dX11_word_57 (c := 1) (by decide) ?_
            refine us_iadd hR dX11_word_58 ?_
            refine us_i2l hR dX11_word_59 ?_
            refine us_iconstC hR dX11_word_60 (c := 5) (by decide) ?_
            refine us_iload_n hR dX11_word_61 rfl ?_
            refine us_imul hR dX11_word_62 ?_
            refine us_lshl hR dX11_word_63 ?_
            refine us_goto hR dX11_word_64 68 (by decide) ?_
            exact h12016_J68 l1 ((mf s 7) - (mf s 6)) ((((mg s 3 (mf s 7)) - 97) + 1).toInt64 <<< ((5 * ((mf s 7) - (mf s 6))).toInt64 &&& 63)) l1  s Ia _ _ hPa hFa ho
  refine us_lconstC hR dX11_word_0 (c := 0) (by decide) ?_
  refine us_lstore_n hR dX11_word_1 (Nat.le_of_ble_eq_true rfl) ?_
  exact h12016_L2 _ 0 _ s I _ _ hP hF ho
def f_12017_J46  (l1 : Int32) (l2 : Int32) (l3 : Int32) (l4 : Int32) (k0 : Int32) (k1 : Int32) (s : Mx) : Option (Mx × Int32) :=
  bS (mp s 7 (k1 + k0)) fun s1 =>
  if l4 = 0 then
    some (s1, l3)
  else
    some (s1, l2)
def f_12017_J29  (l1 : Int32) (l2 : Int32) (l3 : Int32) (k0 : Int32) (s : Mx) : Option (Mx × Int32) :=
  if k0 = 0 then
    f_12017_J46 l1 l2 l3 k0 0 (mf s 7) s
  else
    f_12017_J46 l1 l2 l3 k0 1 (mf s 7) s
def f_12017_J28  (l1 : Int32) (l2 : Int32) (l3 : Int32) (s : Mx) : Option (Mx × Int32) :=
  f_12017_J29 l1 l2 l3 0 s
def f_12017 (x0 : Int32) (x1 : Int32) (x2 : Int32) (s : Mx) : Option (Mx × Int32) :=
  if (mf s 4) ≤ (mf s 7) then
    f_12017_J28 x0 x1 x2 s
  else
    gd (vi (mf s 7) 300) <|
    if (mg s 3 (mf s 7)) = x0 then
      f_12017_J29 x0 x1 x2 1 s
    else
      f_12017_J28 x0 x1 x2 s
theorem sp_12017 {d : Nat} {G : ab_G} {ad : Nat → Nat} {I : Nat → Nat → Int32} {s : Mx} {P : ab_Pq} {X : ab_Xq} (hE : EM G ad) (hP : RepM I ad s) {x0 : Int32} {x1 : Int32} {x2 : Int32}  {o : Mx × Int32} (ho : f_12017 x0 x1 x2 s = some o) (h : ∀ I1, RepM I1 ad o.1 → FrM ad I I1 → P (gW G I1) (some (.int o.2))) : ab_Gam (d + 1) 12017 [.ref (ad 0), .int x0, .int x1, .int x2] (gW G I) P X := by
  have h2 := h
  have hF : FrM ad I I := FrM_rfl
  unfold f_12017 at ho
  refine ab_enter (I := i12017) rfl (Nat.le_of_ble_eq_true rfl) (fun R hR => ?_)
  have h12017_J46 : ∀ (l1 : Int32) (l2 : Int32) (l3 : Int32) (l4 : Int32) (k0 : Int32) (k1 : Int32)  (s : Mx) (Ia : Nat → Nat → Int32) (bc bs : Nat) (hPa : RepM Ia ad s) (hFa : FrM ad I Ia) (ho : f_12017_J46 l1 l2 l3 l4 k0 k1 s = some o), R 46 [some (.ref (ad 0)), some (.int l1), some (.int l2), some (.int l3), some (.int l4)] [.int k0, .int k1, .ref (ad 0)] (gW G Ia) bc bs := by
    intro l1 l2 l3 l4 k0 k1  s Ia bc bs  hPa hFa ho
    unfold f_12017_J46 at ho
    refine us_iadd hR dX11_either_46 ?_
    refine us_putIM hE hPa 7 hR dX11_either_47 fR_12_199 (Or.inl rfl) rfl rfl (fun I1 s1 hs1 hP1 hF1 => ?_)
    rw [← hs1, bS_eq] at ho
    have hF1 := hFa.tr hF1
    refine us_iload hR dX11_either_50 rfl ?_
    refine us_if_eq hR dX11_either_52 59 (by decide) (fun c2 => ?_) (fun c2 => ?_)
    · rw [if_pos c2] at ho
      refine us_iload_n hR dX11_either_59 rfl ?_
      refine us_iret hR dX11_either_60 rfl rfl ?_
      cases ho
      exact h2 _ hP1 hF1
    · rw [if_neg c2] at ho
      refine us_iload_n hR dX11_either_55 rfl ?_
      refine us_goto hR dX11_either_56 60 (by decide) ?_
      refine us_iret hR dX11_either_60 rfl rfl ?_
      cases ho
      exact h2 _ hP1 hF1
  have h12017_J29 : ∀ (l1 : Int32) (l2 : Int32) (l3 : Int32) (k0 : Int32)  (s : Mx) (Ia : Nat → Nat → Int32) (bc bs : Nat) (hPa : RepM Ia ad s) (hFa : FrM ad I Ia) (ho : f_12017_J29 l1 l2 l3 k0 s = some o), R 29 [some (.ref (ad 0)), some (.int l1), some (.int l2), some (.int l3), none] [.int k0] (gW G Ia) bc bs := by
    intro l1 l2 l3 k0  s Ia bc bs  hPa hFa ho
    unfold f_12017_J29 at ho
    refine us_istore hR dX11_either_29 (Nat.le_of_ble_eq_true rfl) ?_
    refine us_aload_n hR dX11_either_31 rfl ?_
    refine us_dup hR dX11_either_32 rfl ?_
    refine us_getIx hR dX11_either_33 fR_12_199 hE.2.1 rfl (RepM_f hPa 7) ?_
    refine us_iload hR dX11_either_36 rfl ?_
    refine us_if_eq hR dX11_either_38 45 (by decide) (fun c3 => ?_) (fun c3 => ?_)
    · rw [if_pos c3] at ho
      refine us_iconstC hR dX11_either_45 (c := 0) (by decide) ?_
      exact h12017_J46 l1 l2 l3 k0 0 (mf s 7)  s Ia _ _ hPa hFa ho
    · rw [if_neg c3] at ho
      refine us_iconstC hR dX11_either_41 (c := 1) (by decide) ?_
      refine us_goto hR dX11_either_42 46 (by decide) ?_
      exact h12017_J46 l1 l2 l3 k0 1 (mf s 7)  s Ia _ _ hPa hFa ho
  have h12017_J28 : ∀ (l1 : Int32) (l2 : Int32) (l3 : Int32)  (s : Mx) (Ia : Nat → Nat → Int32) (bc bs : Nat) (hPa : RepM Ia ad s) (hFa : FrM ad I Ia) (ho : f_12017_J28 l1 l2 l3 s = some o), R 28 [some (.ref (ad 0)), some (.int l1), some (.int l2), some (.int l3), none] [] (gW G Ia) bc bs := by
    intro l1 l2 l3  s Ia bc bs  hPa hFa ho
    unfold f_12017_J28 at ho
    refine us_iconstC hR dX11_either_28 (c := 0) (by decide) ?_
    exact h12017_J29 l1 l2 l3 0  s Ia _ _ hPa hFa ho
  refine us_aload_n hR dX11_either_0 rfl ?_
  refine us_getIx hR dX11_either_1 fR_12_199 hE.2.1 rfl (RepM_f hP 7) ?_
  refine us_aload_n hR dX11_either_4 rfl ?_
  refine us_getIx hR dX11_either_5 fR_12_196 hE.2.1 rfl (RepM_f hP 4) ?_
  refine us_icmp_ge hR dX11_either_8 28 (by decide) (fun c4 => ?_) (fun c4 => ?_)
  · rw [if_pos c4] at ho
    exact h12017_J28 x0 x1 x2  s I _ _ hP hF ho
  · rw [if_neg c4] at ho
    refine us_aload_n hR dX11_either_11 rfl ?_
    refine us_getR hR dX11_either_12 fR_12_16 hE.2.1 rfl (em_r_3 hE) ?_
    refine us_aload_n hR dX11_either_15 rfl ?_
    refine us_getIx hR dX11_either_16 fR_12_199 hE.2.1 rfl (RepM_f hP 7) ?_
    have hg := gd_c ho
    rw [gd_e hg] at ho
    refine us_caloadM hE hP (em_q_3 hE) hR dX11_either_19 hg ?_
    refine us_iload_n hR dX11_either_20 rfl ?_
    refine us_icmp_ne hR dX11_either_21 28 (by decide) (fun c5 => ?_) (fun c5 => ?_)
    · rw [if_neg c5] at ho
      exact h12017_J28 x0 x1 x2  s I _ _ hP hF ho
    · rw [if_pos c5] at ho
      refine us_iconstC hR dX11_either_24 (c := 1) (by decide) ?_
      refine us_goto hR dX11_either_25 29 (by decide) ?_
      exact h12017_J29 x0 x1 x2 1  s I _ _ hP hF ho
def f_12018 (x0 : Int32) (s : Mx) : Option (Mx × Int32) :=
  if x0 = 33 then
    bO (f_12017 61 21 24 s) fun s2 r2 =>
    some (s2, r2)
  else if x0 = 35 then
    some (s, 32)
  else if x0 = 37 then
    some (s, 15)
  else if x0 = 38 then
    bO (f_12017 38 22 (-1) s) fun s3 r3 =>
    some (s3, r3)
  else if x0 = 40 then
    some (s, 26)
  else if x0 = 41 then
    some (s, 27)
  else if x0 = 42 then
    some (s, 13)
  else if x0 = 43 then
    some (s, 11)
  else if x0 = 44 then
    some (s, 30)
  else if x0 = 45 then
    some (s, 12)
  else if x0 = 47 then
    some (s, 14)
  else if x0 = 59 then
    some (s, 31)
  else if x0 = 60 then
    bO (f_12017 61 17 16 s) fun s4 r4 =>
    some (s4, r4)
  else if x0 = 61 then
    bO (f_12017 61 20 25 s) fun s5 r5 =>
    some (s5, r5)
  else if x0 = 62 then
    bO (f_12017 61 19 18 s) fun s6 r6 =>
    some (s6, r6)
  else if x0 = 123 then
    some (s, 28)
  else if x0 = 124 then
    bO (f_12017 124 23 (-1) s) fun s7 r7 =>
    some (s7, r7)
  else if x0 = 125 then
    some (s, 29)
  else
    some (s, (-1))
theorem sp_12018 {d : Nat} {G : ab_G} {ad : Nat → Nat} {I : Nat → Nat → Int32} {s : Mx} {P : ab_Pq} {X : ab_Xq} (hE : EM G ad) (hP : RepM I ad s) {x0 : Int32}  {o : Mx × Int32} (ho : f_12018 x0 s = some o) (h : ∀ I1, RepM I1 ad o.1 → FrM ad I I1 → P (gW G I1) (some (.int o.2))) : ab_Gam (d + 2) 12018 [.ref (ad 0), .int x0] (gW G I) P X := by
  have h2 := h
  have hF : FrM ad I I := FrM_rfl
  unfold f_12018 at ho
  refine ab_enter (I := i12018) rfl (Nat.le_of_ble_eq_true rfl) (fun R hR => ?_)
  refine us_iload_n hR dX11_mark_0 rfl ?_
  refine us_lsw hR dX11_mark_1 (by decide) ⟨fun c1 => ⟨by decide, ?_⟩, fun c1_0 => ⟨fun c1 => ⟨by decide, ?_⟩, fun c1_1 => ⟨fun c1 => ⟨by decide, ?_⟩, fun c1_2 => ⟨fun c1 => ⟨by decide, ?_⟩, fun c1_3 => ⟨fun c1 => ⟨by decide, ?_⟩, fun c1_4 => ⟨fun c1 => ⟨by decide, ?_⟩, fun c1_5 => ⟨fun c1 => ⟨by decide, ?_⟩, fun c1_6 => ⟨fun c1 => ⟨by decide, ?_⟩, fun c1_7 => ⟨fun c1 => ⟨by decide, ?_⟩, fun c1_8 => ⟨fun c1 => ⟨by decide, ?_⟩, fun c1_9 => ⟨fun c1 => ⟨by decide, ?_⟩, fun c1_10 => ⟨fun c1 => ⟨by decide, ?_⟩, fun c1_11 => ⟨fun c1 => ⟨by decide, ?_⟩, fun c1_12 => ⟨fun c1 => ⟨by decide, ?_⟩, fun c1_13 => ⟨fun c1 => ⟨by decide, ?_⟩, fun c1_14 => ⟨fun c1 => ⟨by decide, ?_⟩, fun c1_15 => ⟨fun c1 => ⟨by decide, ?_⟩, fun c1_16 => ⟨fun c1 => ⟨by decide, ?_⟩, fun c1_17 => ⟨by decide, ?_⟩⟩⟩⟩⟩⟩⟩⟩⟩⟩⟩⟩⟩⟩⟩⟩⟩⟩⟩
  · rw [if_pos (i_sw (v := 33) c1)] at ho
    refine us_aload_n hR dX11_mark_204 rfl ?_
    refine us_bipushC hR dX11_mark_205 (c := 61) (by decide) ?_
    refine us_bipushC hR dX11_mark_207 (c := 21) (by decide) ?_
    refine us_bipushC hR dX11_mark_209 (c := 24) (by decide) ?_
    refine us_callV hR dX11_mark_211 (y := 12017) (by decide +kernel) (by decide) (J := i12017) rfl rfl rfl rfl hE.2.1 rfl (Nat.le_of_ble_eq_true rfl) (Nat.zero_le _) (Nat.zero_le _) ?_
    obtain ⟨q2, hs2⟩ := bO_ex ho
    obtain ⟨s2, r2⟩ := q2
    replace ho := bO_go ho hs2
    refine sp_12017 hE hP  hs2 (fun I2 hP2 hF2 => ?_)
    have hF2 := hF.tr hF2
    refine us_iret hR dX11_mark_214 rfl rfl ?_
    cases ho
    exact h2 _ hP2 hF2
  · rw [if_neg (i_sw_x (v := 35) (w := 33) c1 (by decide)), if_pos (i_sw (v := 35) c1)] at ho
    refine us_bipushC hR dX11_mark_253 (c := 32) (by decide) ?_
    refine us_iret hR dX11_mark_255 rfl rfl ?_
    cases ho
    exact h2 _ hP hF
  · rw [if_neg (i_sw_x (v := 37) (w := 33) c1 (by decide)), if_neg (i_sw_x (v := 37) (w := 35) c1 (by decide)), if_pos (i_sw (v := 37) c1)] at ho
    refine us_bipushC hR dX11_mark_168 (c := 15) (by decide) ?_
    refine us_iret hR dX11_mark_170 rfl rfl ?_
    cases ho
    exact h2 _ hP hF
  · rw [if_neg (i_sw_x (v := 38) (w := 33) c1 (by decide)), if_neg (i_sw_x (v := 38) (w := 35) c1 (by decide)), if_neg (i_sw_x (v := 38) (w := 37) c1 (by decide)), if_pos (i_sw (v := 38) c1)] at ho
    refine us_aload_n hR dX11_mark_215 rfl ?_
    refine us_bipushC hR dX11_mark_216 (c := 38) (by decide) ?_
    refine us_bipushC hR dX11_mark_218 (c := 22) (by decide) ?_
    refine us_iconstC hR dX11_mark_220 (c := (-1)) (by decide) ?_
    refine us_callV hR dX11_mark_221 (y := 12017) (by decide +kernel) (by decide) (J := i12017) rfl rfl rfl rfl hE.2.1 rfl (Nat.le_of_ble_eq_true rfl) (Nat.zero_le _) (Nat.zero_le _) ?_
    obtain ⟨q3, hs3⟩ := bO_ex ho
    obtain ⟨s3, r3⟩ := q3
    replace ho := bO_go ho hs3
    refine sp_12017 hE hP  hs3 (fun I3 hP3 hF3 => ?_)
    have hF3 := hF.tr hF3
    refine us_iret hR dX11_mark_224 rfl rfl ?_
    cases ho
    exact h2 _ hP3 hF3
  · rw [if_neg (i_sw_x (v := 40) (w := 33) c1 (by decide)), if_neg (i_sw_x (v := 40) (w := 35) c1 (by decide)), if_neg (i_sw_x (v := 40) (w := 37) c1 (by decide)), if_neg (i_sw_x (v := 40) (w := 38) c1 (by decide)), if_pos (i_sw (v := 40) c1)] at ho
    refine us_bipushC hR dX11_mark_235 (c := 26) (by decide) ?_
    refine us_iret hR dX11_mark_237 rfl rfl ?_
    cases ho
    exact h2 _ hP hF
  · rw [if_neg (i_sw_x (v := 41) (w := 33) c1 (by decide)), if_neg (i_sw_x (v := 41) (w := 35) c1 (by decide)), if_neg (i_sw_x (v := 41) (w := 37) c1 (by decide)), if_neg (i_sw_x (v := 41) (w := 38) c1 (by decide)), if_neg (i_sw_x (v := 41) (w := 40) c1 (by decide)), if_pos (i_sw (v := 41) c1)] at ho
    refine us_bipushC hR dX11_mark_238 (c := 27) (by decide) ?_
    refine us_iret hR dX11_mark_240 rfl rfl ?_
    cases ho
    exact h2 _ hP hF
  · rw [if_neg (i_sw_x (v := 42) (w := 33) c1 (by decide)), if_neg (i_sw_x (v := 42) (w := 35) c1 (by decide)), if_neg (i_sw_x (v := 42) (w := 37) c1 (by decide)), if_neg (i_sw_x (v := 42) (w := 38) c1 (by decide)), if_neg (i_sw_x (v := 42) (w := 40) c1 (by decide)), if_neg (i_sw_x (v := 42) (w := 41) c1 (by decide)), if_pos (i_sw (v := 42) c1)] at ho
    refine us_bipushC hR dX11_mark_162 (c := 13) (by decide) ?_
    refine us_iret hR dX11_mark_164 rfl rfl ?_
    cases ho
    exact h2 _ hP hF
  · rw [if_neg (i_sw_x (v := 43) (w := 33) c1 (by decide)), if_neg (i_sw_x (v := 43) (w := 35) c1 (by decide)), if_neg (i_sw_x (v := 43) (w := 37) c1 (by decide)), if_neg (i_sw_x (v := 43) (w := 38) c1 (by decide)), if_neg (i_sw_x (v := 43) (w := 40) c1 (by decide)), if_neg (i_sw_x (v := 43) (w := 41) c1 (by decide)), if_neg (i_sw_x (v := 43) (w := 42) c1 (by decide)), if_pos (i_sw (v := 43) c1)] at ho
    refine us_bipushC hR dX11_mark_156 (c := 11) (by decide) ?_
    refine us_iret hR dX11_mark_158 rfl rfl ?_
    cases ho
    exact h2 _ hP hF
  · rw [if_neg (i_sw_x (v := 44) (w := 33) c1 (by decide)), if_neg (i_sw_x (v := 44) (w := 35) c1 (by decide)), if_neg (i_sw_x (v := 44) (w := 37) c1 (by decide)), if_neg (i_sw_x (v := 44) (w := 38) c1 (by decide)), if_neg (i_sw_x (v := 44) (w := 40) c1 (by decide)), if_neg (i_sw_x (v := 44) (w := 41) c1 (by decide)), if_neg (i_sw_x (v := 44) (w := 42) c1 (by decide)), if_neg (i_sw_x (v := 44) (w := 43) c1 (by decide)), if_pos (i_sw (v := 44) c1)] at ho
    refine us_bipushC hR dX11_mark_247 (c := 30) (by decide) ?_
    refine us_iret hR dX11_mark_249 rfl rfl ?_
    cases ho
    exact h2 _ hP hF
  · rw [if_neg (i_sw_x (v := 45) (w := 33) c1 (by decide)), if_neg (i_sw_x (v := 45) (w := 35) c1 (by decide)), if_neg (i_sw_x (v := 45) (w := 37) c1 (by decide)), if_neg (i_sw_x (v := 45) (w := 38) c1 (by decide)), if_neg (i_sw_x (v := 45) (w := 40) c1 (by decide)), if_neg (i_sw_x (v := 45) (w := 41) c1 (by decide)), if_neg (i_sw_x (v := 45) (w := 42) c1 (by decide)), if_neg (i_sw_x (v := 45) (w := 43) c1 (by decide)), if_neg (i_sw_x (v := 45) (w := 44) c1 (by decide)), if_pos (i_sw (v := 45) c1)] at ho
    refine us_bipushC hR dX11_mark_159 (c := 12) (by decide) ?_
    refine us_iret hR dX11_mark_161 rfl rfl ?_
    cases ho
    exact h2 _ hP hF
  · rw [if_neg (i_sw_x (v := 47) (w := 33) c1 (by decide)), if_neg (i_sw_x (v := 47) (w := 35) c1 (by decide)), if_neg (i_sw_x (v := 47) (w := 37) c1 (by decide)), if_neg (i_sw_x (v := 47) (w := 38) c1 (by decide)), if_neg (i_sw_x (v := 47) (w := 40) c1 (by decide)), if_neg (i_sw_x (v := 47) (w := 41) c1 (by decide)), if_neg (i_sw_x (v := 47) (w := 42) c1 (by decide)), if_neg (i_sw_x (v := 47) (w := 43) c1 (by decide)), if_neg (i_sw_x (v := 47) (w := 44) c1 (by decide)), if_neg (i_sw_x (v := 47) (w := 45) c1 (by decide)), if_pos (i_sw (v := 47) c1)] at ho
    refine us_bipushC hR dX11_mark_165 (c := 14) (by decide) ?_
    refine us_iret hR dX11_mark_167 rfl rfl ?_
    cases ho
    exact h2 _ hP hF
  · rw [if_neg (i_sw_x (v := 59) (w := 33) c1 (by decide)), if_neg (i_sw_x (v := 59) (w := 35) c1 (by decide)), if_neg (i_sw_x (v := 59) (w := 37) c1 (by decide)), if_neg (i_sw_x (v := 59) (w := 38) c1 (by decide)), if_neg (i_sw_x (v := 59) (w := 40) c1 (by decide)), if_neg (i_sw_x (v := 59) (w := 41) c1 (by decide)), if_neg (i_sw_x (v := 59) (w := 42) c1 (by decide)), if_neg (i_sw_x (v := 59) (w := 43) c1 (by decide)), if_neg (i_sw_x (v := 59) (w := 44) c1 (by decide)), if_neg (i_sw_x (v := 59) (w := 45) c1 (by decide)), if_neg (i_sw_x (v := 59) (w := 47) c1 (by decide)), if_pos (i_sw (v := 59) c1)] at ho
    refine us_bipushC hR dX11_mark_250 (c := 31) (by decide) ?_
    refine us_iret hR dX11_mark_252 rfl rfl ?_
    cases ho
    exact h2 _ hP hF
  · rw [if_neg (i_sw_x (v := 60) (w := 33) c1 (by decide)), if_neg (i_sw_x (v := 60) (w := 35) c1 (by decide)), if_neg (i_sw_x (v := 60) (w := 37) c1 (by decide)), if_neg (i_sw_x (v := 60) (w := 38) c1 (by decide)), if_neg (i_sw_x (v := 60) (w := 40) c1 (by decide)), if_neg (i_sw_x (v := 60) (w := 41) c1 (by decide)), if_neg (i_sw_x (v := 60) (w := 42) c1 (by decide)), if_neg (i_sw_x (v := 60) (w := 43) c1 (by decide)), if_neg (i_sw_x (v := 60) (w := 44) c1 (by decide)), if_neg (i_sw_x (v := 60) (w := 45) c1 (by decide)), if_neg (i_sw_x (v := 60) (w := 47) c1 (by decide)), if_neg (i_sw_x (v := 60) (w := 59) c1 (by decide)), if_pos (i_sw (v := 60) c1)] at ho
    refine us_aload_n hR dX11_mark_171 rfl ?_
    refine us_bipushC hR dX11_mark_172 (c := 61) (by decide) ?_
    refine us_bipushC hR dX11_mark_174 (c := 17) (by decide) ?_
    refine us_bipushC hR dX11_mark_176 (c := 16) (by decide) ?_
    refine us_callV hR dX11_mark_178 (y := 12017) (by decide +kernel) (by decide) (J := i12017) rfl rfl rfl rfl hE.2.1 rfl (Nat.le_of_ble_eq_true rfl) (Nat.zero_le _) (Nat.zero_le _) ?_
    obtain ⟨q4, hs4⟩ := bO_ex ho
    obtain ⟨s4, r4⟩ := q4
    replace ho := bO_go ho hs4
    refine sp_12017 hE hP  hs4 (fun I4 hP4 hF4 => ?_)
    have hF4 := hF.tr hF4
    refine us_iret hR dX11_mark_181 rfl rfl ?_
    cases ho
    exact h2 _ hP4 hF4
  · rw [if_neg (i_sw_x (v := 61) (w := 33) c1 (by decide)), if_neg (i_sw_x (v := 61) (w := 35) c1 (by decide)), if_neg (i_sw_x (v := 61) (w := 37) c1 (by decide)), if_neg (i_sw_x (v := 61) (w := 38) c1 (by decide)), if_neg (i_sw_x (v := 61) (w := 40) c1 (by decide)), if_neg (i_sw_x (v := 61) (w := 41) c1 (by decide)), if_neg (i_sw_x (v := 61) (w := 42) c1 (by decide)), if_neg (i_sw_x (v := 61) (w := 43) c1 (by decide)), if_neg (i_sw_x (v := 61) (w := 44) c1 (by decide)), if_neg (i_sw_x (v := 61) (w := 45) c1 (by decide)), if_neg (i_sw_x (v := 61) (w := 47) c1 (by decide)), if_neg (i_sw_x (v := 61) (w := 59) c1 (by decide)), if_neg (i_sw_x (v := 61) (w := 60) c1 (by decide)), if_pos (i_sw (v := 61) c1)] at ho
    refine us_aload_n hR dX11_mark_193 rfl ?_
    refine us_bipushC hR dX11_mark_194 (c := 61) (by decide) ?_
    refine us_bipushC hR dX11_mark_196 (c := 20) (by decide) ?_
    refine us_bipushC hR dX11_mark_198 (c := 25) (by decide) ?_
    refine us_callV hR dX11_mark_200 (y := 12017) (by decide +kernel) (by decide) (J := i12017) rfl rfl rfl rfl hE.2.1 rfl (Nat.le_of_ble_eq_true rfl) (Nat.zero_le _) (Nat.zero_le _) ?_
    obtain ⟨q5, hs5⟩ := bO_ex ho
    obtain ⟨s5, r5⟩ := q5
    replace ho := bO_go ho hs5
    refine sp_12017 hE hP  hs5 (fun I5 hP5 hF5 => ?_)
    have hF5 := hF.tr hF5
    refine us_iret hR dX11_mark_203 rfl rfl ?_
    cases ho
    exact h2 _ hP5 hF5
  · rw [if_neg (i_sw_x (v := 62) (w := 33) c1 (by decide)), if_neg (i_sw_x (v := 62) (w := 35) c1 (by decide)), if_neg (i_sw_x (v := 62) (w := 37) c1 (by decide)), if_neg (i_sw_x (v := 62) (w := 38) c1 (by decide)), if_neg (i_sw_x (v := 62) (w := 40) c1 (by decide)), if_neg (i_sw_x (v := 62) (w := 41) c1 (by decide)), if_neg (i_sw_x (v := 62) (w := 42) c1 (by decide)), if_neg (i_sw_x (v := 62) (w := 43) c1 (by decide)), if_neg (i_sw_x (v := 62) (w := 44) c1 (by decide)), if_neg (i_sw_x (v := 62) (w := 45) c1 (by decide)), if_neg (i_sw_x (v := 62) (w := 47) c1 (by decide)), if_neg (i_sw_x (v := 62) (w := 59) c1 (by decide)), if_neg (i_sw_x (v := 62) (w := 60) c1 (by decide)), if_neg (i_sw_x (v := 62) (w := 61) c1 (by decide)), if_pos (i_sw (v := 62) c1)] at ho
    refine us_aload_n hR dX11_mark_182 rfl ?_
    refine us_bipushC hR dX11_mark_183 (c := 61) (by decide) ?_
    refine us_bipushC hR dX11_mark_185 (c := 19) (by decide) ?_
    refine us_bipushC hR dX11_mark_187 (c := 18) (by decide) ?_
    refine us_callV hR dX11_mark_189 (y := 12017) (by decide +kernel) (by decide) (J := i12017) rfl rfl rfl rfl hE.2.1 rfl (Nat.le_of_ble_eq_true rfl) (Nat.zero_le _) (Nat.zero_le _) ?_
    obtain ⟨q6, hs6⟩ := bO_ex ho
    obtain ⟨s6, r6⟩ := q6
    replace ho := bO_go ho hs6
    refine sp_12017 hE hP  hs6 (fun I6 hP6 hF6 => ?_)
    have hF6 := hF.tr hF6
    refine us_iret hR dX11_mark_192 rfl rfl ?_
    cases ho
    exact h2 _ hP6 hF6
  · rw [if_neg (i_sw_x (v := 123) (w := 33) c1 (by decide)), if_neg (i_sw_x (v := 123) (w := 35) c1 (by decide)), if_neg (i_sw_x (v := 123) (w := 37) c1 (by decide)), if_neg (i_sw_x (v := 123) (w := 38) c1 (by decide)), if_neg (i_sw_x (v := 123) (w := 40) c1 (by decide)), if_neg (i_sw_x (v := 123) (w := 41) c1 (by decide)), if_neg (i_sw_x (v := 123) (w := 42) c1 (by decide)), if_neg (i_sw_x (v := 123) (w := 43) c1 (by decide)), if_neg (i_sw_x (v := 123) (w := 44) c1 (by decide)), if_neg (i_sw_x (v := 123) (w := 45) c1 (by decide)), if_neg (i_sw_x (v := 123) (w := 47) c1 (by decide)), if_neg (i_sw_x (v := 123) (w := 59) c1 (by decide)), if_neg (i_sw_x (v := 123) (w := 60) c1 (by decide)), if_neg (i_sw_x (v := 123) (w := 61) c1 (by decide)), if_neg (i_sw_x (v := 123) (w := 62) c1 (by decide)), if_pos (i_sw (v := 123) c1)] at ho
    refine us_bipushC hR dX11_mark_241 (c := 28) (by decide) ?_
    refine us_iret hR dX11_mark_243 rfl rfl ?_
    cases ho
    exact h2 _ hP hF
  · rw [if_neg (i_sw_x (v := 124) (w := 33) c1 (by decide)), if_neg (i_sw_x (v := 124) (w := 35) c1 (by decide)), if_neg (i_sw_x (v := 124) (w := 37) c1 (by decide)), if_neg (i_sw_x (v := 124) (w := 38) c1 (by decide)), if_neg (i_sw_x (v := 124) (w := 40) c1 (by decide)), if_neg (i_sw_x (v := 124) (w := 41) c1 (by decide)), if_neg (i_sw_x (v := 124) (w := 42) c1 (by decide)), if_neg (i_sw_x (v := 124) (w := 43) c1 (by decide)), if_neg (i_sw_x (v := 124) (w := 44) c1 (by decide)), if_neg (i_sw_x (v := 124) (w := 45) c1 (by decide)), if_neg (i_sw_x (v := 124) (w := 47) c1 (by decide)), if_neg (i_sw_x (v := 124) (w := 59) c1 (by decide)), if_neg (i_sw_x (v := 124) (w := 60) c1 (by decide)), if_neg (i_sw_x (v := 124) (w := 61) c1 (by decide)), if_neg (i_sw_x (v := 124) (w := 62) c1 (by decide)), if_neg (i_sw_x (v := 124) (w := 123) c1 (by decide)), if_pos (i_sw (v := 124) c1)] at ho
    refine us_aload_n hR dX11_mark_225 rfl ?_
    refine us_bipushC hR dX11_mark_226 (c := 124) (by decide) ?_
    refine us_bipushC hR dX11_mark_228 (c := 23) (by decide) ?_
    refine us_iconstC hR dX11_mark_230 (c := (-1)) (by decide) ?_
    refine us_callV hR dX11_mark_231 (y := 12017) (by decide +kernel) (by decide) (J := i12017) rfl rfl rfl rfl hE.2.1 rfl (Nat.le_of_ble_eq_true rfl) (Nat.zero_le _) (Nat.zero_le _) ?_
    obtain ⟨q7, hs7⟩ := bO_ex ho
    obtain ⟨s7, r7⟩ := q7
    replace ho := bO_go ho hs7
    refine sp_12017 hE hP  hs7 (fun I7 hP7 hF7 => ?_)
    have hF7 := hF.tr hF7
    refine us_iret hR dX11_mark_234 rfl rfl ?_
    cases ho
    exact h2 _ hP7 hF7
  · rw [if_neg (i_sw_x (v := 125) (w := 33) c1 (by decide)), if_neg (i_sw_x (v := 125) (w := 35) c1 (by decide)), if_neg (i_sw_x (v := 125) (w := 37) c1 (by decide)), if_neg (i_sw_x (v := 125) (w := 38) c1 (by decide)), if_neg (i_sw_x (v := 125) (w := 40) c1 (by decide)), if_neg (i_sw_x (v := 125) (w := 41) c1 (by decide)), if_neg (i_sw_x (v := 125) (w := 42) c1 (by decide)), if_neg (i_sw_x (v := 125) (w := 43) c1 (by decide)), if_neg (i_sw_x (v := 125) (w := 44) c1 (by decide)), if_neg (i_sw_x (v := 125) (w := 45) c1 (by decide)), if_neg (i_sw_x (v := 125) (w := 47) c1 (by decide)), if_neg (i_sw_x (v := 125) (w := 59) c1 (by decide)), if_neg (i_sw_x (v := 125) (w := 60) c1 (by decide)), if_neg (i_sw_x (v := 125) (w := 61) c1 (by decide)), if_neg (i_sw_x (v := 125) (w := 62) c1 (by decide)), if_neg (i_sw_x (v := 125) (w := 123) c1 (by decide)), if_neg (i_sw_x (v := 125) (w := 124) c1 (by decide)), if_pos (i_sw (v := 125) c1)] at ho
    refine us_bipushC hR dX11_mark_244 (c := 29) (by decide) ?_
    refine us_iret hR dX11_mark_246 rfl rfl ?_
    cases ho
    exact h2 _ hP hF
  · rw [if_neg (i_sw_n (v := 33) c1_0), if_neg (i_sw_n (v := 35) c1_1), if_neg (i_sw_n (v := 37) c1_2), if_neg (i_sw_n (v := 38) c1_3), if_neg (i_sw_n (v := 40) c1_4), if_neg (i_sw_n (v := 41) c1_5), if_neg (i_sw_n (v := 42) c1_6), if_neg (i_sw_n (v := 43) c1_7), if_neg (i_sw_n (v := 44) c1_8), if_neg (i_sw_n (v := 45) c1_9), if_neg (i_sw_n (v := 47) c1_10), if_neg (i_sw_n (v := 59) c1_11), if_neg (i_sw_n (v := 60) c1_12), if_neg (i_sw_n (v := 61) c1_13), if_neg (i_sw_n (v := 62) c1_14), if_neg (i_sw_n (v := 123) c1_15), if_neg (i_sw_n (v := 124) c1_16), if_neg (i_sw_n (v := 125) c1_17)] at ho
    refine us_iconstC hR dX11_mark_256 (c := (-1)) (by decide) ?_
    refine us_iret hR dX11_mark_257 rfl rfl ?_
    cases ho
    exact h2 _ hP hF
def f_12019  (s : Mx) : Option Mx :=
  bP (f_12013 (mf s 7) s) fun r1 =>
  bS (mp s 6 r1) fun s2 =>
  bS (mp s2 7 (mf s2 6)) fun s3 =>
  if (mf s3 6) = (mf s3 4) then
    bS (mp s3 5 0) fun s16 =>
    some s16
  else
    gd (vi (mf s3 6) 300) <|
    if (f_12011 (mg s3 3 (mf s3 6)) s3) = 0 then
      gd (vi (mf s3 6) 300) <|
      if (f_12012 (mg s3 3 (mf s3 6)) s3) = 0 then
        bS (mp s3 7 ((mf s3 7) + 1)) fun s9 =>
        gd (vi (mf s9 6) 300) <|
        bO (f_12018 (mg s9 3 (mf s9 6)) s9) fun s10 r10 =>
        bS (mp s10 5 r10) fun s11 =>
        some s11
      else
        bO (f_12016 s3) fun s12 r12 =>
        bS (mp s12 5 r12) fun s13 =>
        some s13
    else
      bO (f_12015 s3) fun s14 r14 =>
      bS (mp s14 5 r14) fun s15 =>
      some s15
theorem sp_12019 {d : Nat} {G : ab_G} {ad : Nat → Nat} {I : Nat → Nat → Int32} {s : Mx} {P : ab_Pq} {X : ab_Xq} (hE : EM G ad) (hP : RepM I ad s)   {o : Mx} (ho : f_12019 s = some o) (h : ∀ I1, RepM I1 ad o → FrM ad I I1 → P (gW G I1) none) : ab_Gam (d + 3) 12019 [.ref (ad 0)] (gW G I) P X := by
  have h2 := h
  have hF : FrM ad I I := FrM_rfl
  unfold f_12019 at ho
  refine ab_enter (I := i12019) rfl (Nat.le_of_ble_eq_true rfl) (fun R hR => ?_)
  refine us_aload_n hR dX11_reads_0 rfl ?_
  refine us_aload_n hR dX11_reads_1 rfl ?_
  refine us_aload_n hR dX11_reads_2 rfl ?_
  refine us_getIx hR dX11_reads_3 fR_12_199 hE.2.1 rfl (RepM_f hP 7) ?_
  refine us_callV hR dX11_reads_6 (y := 12013) (by decide +kernel) (by decide) (J := i12013) rfl rfl rfl rfl hE.2.1 rfl (Nat.le_of_ble_eq_true rfl) (Nat.zero_le _) (Nat.zero_le _) ?_
  obtain ⟨r1, hr1⟩ := bP_ex ho
  replace ho := bP_go ho hr1
  refine sp_12013 hE hP  hr1 ?_
  refine us_putIM hE hP 6 hR dX11_reads_9 fR_12_219 (Or.inl rfl) rfl rfl (fun I2 s2 hs2 hP2 hF2 => ?_)
  rw [← hs2, bS_eq] at ho
  have hF2 := hF.tr hF2
  refine us_aload_n hR dX11_reads_12 rfl ?_
  refine us_aload_n hR dX11_reads_13 rfl ?_
  refine us_getIx hR dX11_reads_14 fR_12_219 hE.2.1 rfl (RepM_f hP2 6) ?_
  refine us_putIM hE hP2 7 hR dX11_reads_17 fR_12_199 (Or.inl rfl) rfl rfl (fun I3 s3 hs3 hP3 hF3 => ?_)
  rw [← hs3, bS_eq] at ho
  have hF3 := hF2.tr hF3
  refine us_aload_n hR dX11_reads_20 rfl ?_
  refine us_getIx hR dX11_reads_21 fR_12_219 hE.2.1 rfl (RepM_f hP3 6) ?_
  refine us_aload_n hR dX11_reads_24 rfl ?_
  refine us_getIx hR dX11_reads_25 fR_12_196 hE.2.1 rfl (RepM_f hP3 4) ?_
  refine us_icmp_ne hR dX11_reads_28 39 (by decide) (fun c4 => ?_) (fun c4 => ?_)
  · rw [if_neg c4] at ho
    refine us_aload_n hR dX11_reads_39 rfl ?_
    refine us_getR hR dX11_reads_40 fR_12_16 hE.2.1 rfl (em_r_3 hE) ?_
    refine us_aload_n hR dX11_reads_43 rfl ?_
    refine us_getIx hR dX11_reads_44 fR_12_219 hE.2.1 rfl (RepM_f hP3 6) ?_
    have hg := gd_c ho
    rw [gd_e hg] at ho
    refine us_caloadM hE hP3 (em_q_3 hE) hR dX11_reads_47 hg ?_
    refine us_callS hR dX11_reads_48 (y := 12011) (by decide +kernel) (by decide) (J := i12011) rfl rfl rfl rfl (rest := _) (Nat.le_of_ble_eq_true rfl) (Nat.zero_le _) (Nat.zero_le _) ?_
    refine sp_12011 hE hP3  (fun hb5 => ?_)
    refine us_if_eq hR dX11_reads_51 65 (by decide) (fun c6 => ?_) (fun c6 => ?_)
    · rw [if_pos c6] at ho
      refine us_aload_n hR dX11_reads_65 rfl ?_
      refine us_getR hR dX11_reads_66 fR_12_16 hE.2.1 rfl (em_r_3 hE) ?_
      refine us_aload_n hR dX11_reads_69 rfl ?_
      refine us_getIx hR dX11_reads_70 fR_12_219 hE.2.1 rfl (RepM_f hP3 6) ?_
      have hg := gd_c ho
      rw [gd_e hg] at ho
      refine us_caloadM hE hP3 (em_q_3 hE) hR dX11_reads_73 hg ?_
      refine us_callS hR dX11_reads_74 (y := 12012) (by decide +kernel) (by decide) (J := i12012) rfl rfl rfl rfl (rest := _) (Nat.le_of_ble_eq_true rfl) (Nat.zero_le _) (Nat.zero_le _) ?_
      refine sp_12012 hE hP3  (fun hb7 => ?_)
      refine us_if_eq hR dX11_reads_77 91 (by decide) (fun c8 => ?_) (fun c8 => ?_)
      · rw [if_pos c8] at ho
        refine us_aload_n hR dX11_reads_91 rfl ?_
        refine us_dup hR dX11_reads_92 rfl ?_
        refine us_getIx hR dX11_reads_93 fR_12_199 hE.2.1 rfl (RepM_f hP3 7) ?_
        refine us_iconstC hR dX11_reads_96 (c := 1) (by decide) ?_
        refine us_iadd hR dX11_reads_97 ?_
        refine us_putIM hE hP3 7 hR dX11_reads_98 fR_12_199 (Or.inl rfl) rfl rfl (fun I9 s9 hs9 hP9 hF9 => ?_)
        rw [← hs9, bS_eq] at ho
        have hF9 := hF3.tr hF9
        refine us_aload_n hR dX11_reads_101 rfl ?_
        refine us_aload_n hR dX11_reads_102 rfl ?_
        refine us_aload_n hR dX11_reads_103 rfl ?_
        refine us_getR hR dX11_reads_104 fR_12_16 hE.2.1 rfl (em_r_3 hE) ?_
        refine us_aload_n hR dX11_reads_107 rfl ?_
        refine us_getIx hR dX11_reads_108 fR_12_219 hE.2.1 rfl (RepM_f hP9 6) ?_
        have hg := gd_c ho
        rw [gd_e hg] at ho
        refine us_caloadM hE hP9 (em_q_3 hE) hR dX11_reads_111 hg ?_
        refine us_callV hR dX11_reads_112 (y := 12018) (by decide +kernel) (by decide) (J := i12018) rfl rfl rfl rfl hE.2.1 rfl (Nat.le_of_ble_eq_true rfl) (Nat.zero_le _) (Nat.zero_le _) ?_
        obtain ⟨q10, hs10⟩ := bO_ex ho
        obtain ⟨s10, r10⟩ := q10
        replace ho := bO_go ho hs10
        refine sp_12018 hE hP9  hs10 (fun I10 hP10 hF10 => ?_)
        have hF10 := hF9.tr hF10
        refine us_putIM hE hP10 5 hR dX11_reads_115 fR_12_240 (Or.inl rfl) rfl rfl (fun I11 s11 hs11 hP11 hF11 => ?_)
        rw [← hs11, bS_eq] at ho
        have hF11 := hF10.tr hF11
        refine us_vret hR dX11_reads_118 rfl ?_
        cases ho
        exact h2 _ hP11 hF11
      · rw [if_neg c8] at ho
        refine us_aload_n hR dX11_reads_80 rfl ?_
        refine us_aload_n hR dX11_reads_81 rfl ?_
        refine us_callV hR dX11_reads_82 (y := 12016) (by decide +kernel) (by decide) (J := i12016) rfl rfl rfl rfl hE.2.1 rfl (Nat.le_of_ble_eq_true rfl) (Nat.zero_le _) (Nat.zero_le _) ?_
        obtain ⟨q12, hs12⟩ := bO_ex ho
        obtain ⟨s12, r12⟩ := q12
        replace ho := bO_go ho hs12
        refine sp_12016 hE hP3  hs12 (fun I12 hP12 hF12 => ?_)
        have hF12 := hF3.tr hF12
        refine us_putIM hE hP12 5 hR dX11_reads_85 fR_12_240 (Or.inl rfl) rfl rfl (fun I13 s13 hs13 hP13 hF13 => ?_)
        rw [← hs13, bS_eq] at ho
        have hF13 := hF12.tr hF13
        refine us_goto hR dX11_reads_88 118 (by decide) ?_
        refine us_vret hR dX11_reads_118 rfl ?_
        cases ho
        exact h2 _ hP13 hF13
    · rw [if_neg c6] at ho
      refine us_aload_n hR dX11_reads_54 rfl ?_
      refine us_aload_n hR dX11_reads_55 rfl ?_
      refine us_callV hR dX11_reads_56 (y := 12015) (by decide +kernel) (by decide) (J := i12015) rfl rfl rfl rfl hE.2.1 rfl (Nat.le_of_ble_eq_true rfl) (Nat.zero_le _) (Nat.zero_le _) ?_
      obtain ⟨q14, hs14⟩ := bO_ex ho
      obtain ⟨s14, r14⟩ := q14
      replace ho := bO_go ho hs14
      refine sp_12015 hE hP3  hs14 (fun I14 hP14 hF14 => ?_)
      have hF14 := hF3.tr hF14
      refine us_putIM hE hP14 5 hR dX11_reads_59 fR_12_240 (Or.inl rfl) rfl rfl (fun I15 s15 hs15 hP15 hF15 => ?_)
      rw [← hs15, bS_eq] at ho
      have hF15 := hF14.tr hF15
      refine us_goto hR dX11_reads_62 118 (by decide) ?_
      refine us_vret hR dX11_reads_118 rfl ?_
      cases ho
      exact h2 _ hP15 hF15
  · rw [if_pos c4] at ho
    refine us_aload_n hR dX11_reads_31 rfl ?_
    refine us_iconstC hR dX11_reads_32 (c := 0) (by decide) ?_
    refine us_putIM hE hP3 5 hR dX11_reads_33 fR_12_240 (Or.inl rfl) rfl rfl (fun I16 s16 hs16 hP16 hF16 => ?_)
    rw [← hs16, bS_eq] at ho
    have hF16 := hF3.tr hF16
    refine us_goto hR dX11_reads_36 118 (by decide) ?_
    refine us_vret hR dX11_reads_118 rfl ?_
    cases ho
    exact h2 _ hP16 hF16
def f_12020 (x0 : Int32) (s : Mx) : Mx × Int32 :=
  bS (mp s 9 x0) fun s1 =>
  bS (mp s1 10 (mf s1 6)) fun s2 =>
  (s2, 0)
theorem sp_12020 {d : Nat} {G : ab_G} {ad : Nat → Nat} {I : Nat → Nat → Int32} {s : Mx} {P : ab_Pq} {X : ab_Xq} (hE : EM G ad) (hP : RepM I ad s) {x0 : Int32}  (h : ∀ I1 o, o = f_12020 x0 s → (o.2 = 0 ∨ o.2 = 1) → RepM I1 ad o.1 → FrM ad I I1 → P (gW G I1) (some (.int o.2))) : ab_Gam (d + 1) 12020 [.ref (ad 0), .int x0] (gW G I) P X := by
  obtain ⟨o, ho⟩ : ∃ o, o = f_12020 x0 s := ⟨_, rfl⟩
  have h2 := fun I1 => h I1 o ho
  have hF : FrM ad I I := FrM_rfl
  unfold f_12020 at ho
  refine ab_enter (I := i12020) rfl (Nat.le_of_ble_eq_true rfl) (fun R hR => ?_)
  refine us_aload_n hR dX11_fails_0 rfl ?_
  refine us_iload_n hR dX11_fails_1 rfl ?_
  refine us_putIM hE hP 9 hR dX11_fails_2 fR_12_254 (Or.inl rfl) rfl rfl (fun I1 s1 hs1 hP1 hF1 => ?_)
  rw [← hs1, bS_eq] at ho
  have hF1 := hF.tr hF1
  refine us_aload_n hR dX11_fails_5 rfl ?_
  refine us_aload_n hR dX11_fails_6 rfl ?_
  refine us_getIx hR dX11_fails_7 fR_12_219 hE.2.1 rfl (RepM_f hP1 6) ?_
  refine us_putIM hE hP1 10 hR dX11_fails_10 fR_12_257 (Or.inl rfl) rfl rfl (fun I2 s2 hs2 hP2 hF2 => ?_)
  rw [← hs2, bS_eq] at ho
  have hF2 := hF1.tr hF2
  refine us_iconstC hR dX11_fails_13 (c := 0) (by decide) ?_
  refine us_iret hR dX11_fails_14 rfl (nar01 (Or.inl rfl)) ?_
  subst ho
  exact h2 _ (Or.inl rfl) hP2 hF2
def f_12021 (x0 : Int32) (x1 : Int32) (s : Mx) : Option (Mx × Int32) :=
  gd (vi (mf s 11) 1200) <|
  bS (ms s 4 (mf s 11) x0) fun s1 =>
  gd (vi (mf s1 11) 1200) <|
  bS (ms s1 5 (mf s1 11) x1) fun s2 =>
  bS (mp s2 11 ((mf s2 11) + 1)) fun s3 =>
  some (s3, ((mf s3 11) - 1))
theorem sp_12021 {d : Nat} {G : ab_G} {ad : Nat → Nat} {I : Nat → Nat → Int32} {s : Mx} {P : ab_Pq} {X : ab_Xq} (hE : EM G ad) (hP : RepM I ad s) {x0 : Int32} {x1 : Int32}  {o : Mx × Int32} (ho : f_12021 x0 x1 s = some o) (h : ∀ I1, RepM I1 ad o.1 → FrM ad I I1 → P (gW G I1) (some (.int o.2))) : ab_Gam (d + 1) 12021 [.ref (ad 0), .int x0, .int x1] (gW G I) P X := by
  have h2 := h
  have hF : FrM ad I I := FrM_rfl
  unfold f_12021 at ho
  refine ab_enter (I := i12021) rfl (Nat.le_of_ble_eq_true rfl) (fun R hR => ?_)
  refine us_aload_n hR dX11_adds_0 rfl ?_
  refine us_getR hR dX11_adds_1 fR_12_19 hE.2.1 rfl (em_r_12 hE) ?_
  refine us_aload_n hR dX11_adds_4 rfl ?_
  refine us_getIx hR dX11_adds_5 fR_12_260 hE.2.1 rfl (RepM_f hP 11) ?_
  refine us_iload_n hR dX11_adds_8 rfl ?_
  have hg := gd_c ho
  rw [gd_e hg] at ho
  refine us_iastoreM hE hP (em_q_12 hE) hR dX11_adds_9 hg (fun I1 s1 hs1 hP1 hF1 => ?_)
  rw [← hs1, bS_eq] at ho
  have hF1 := hF.tr hF1
  refine us_aload_n hR dX11_adds_10 rfl ?_
  refine us_getR hR dX11_adds_11 fR_12_23 hE.2.1 rfl (em_r_13 hE) ?_
  refine us_aload_n hR dX11_adds_14 rfl ?_
  refine us_getIx hR dX11_adds_15 fR_12_260 hE.2.1 rfl (RepM_f hP1 11) ?_
  refine us_iload_n hR dX11_adds_18 rfl ?_
  have hg := gd_c ho
  rw [gd_e hg] at ho
  refine us_iastoreM hE hP1 (em_q_13 hE) hR dX11_adds_19 hg (fun I2 s2 hs2 hP2 hF2 => ?_)
  rw [← hs2, bS_eq] at ho
  have hF2 := hF1.tr hF2
  refine us_aload_n hR dX11_adds_20 rfl ?_
  refine us_dup hR dX11_adds_21 rfl ?_
  refine us_getIx hR dX11_adds_22 fR_12_260 hE.2.1 rfl (RepM_f hP2 11) ?_
  refine us_iconstC hR dX11_adds_25 (c := 1) (by decide) ?_
  refine us_iadd hR dX11_adds_26 ?_
  refine us_putIM hE hP2 11 hR dX11_adds_27 fR_12_260 (Or.inl rfl) rfl rfl (fun I3 s3 hs3 hP3 hF3 => ?_)
  rw [← hs3, bS_eq] at ho
  have hF3 := hF2.tr hF3
  refine us_aload_n hR dX11_adds_30 rfl ?_
  refine us_getIx hR dX11_adds_31 fR_12_260 hE.2.1 rfl (RepM_f hP3 11) ?_
  refine us_iconstC hR dX11_adds_34 (c := 1) (by decide) ?_
  refine us_isub hR dX11_adds_35 ?_
  refine us_iret hR dX11_adds_36 rfl rfl ?_
  cases ho
  exact h2 _ hP3 hF3
def f_12022 (x0 : Int32) (x1 : Int32) (s : Mx) : Option (Mx × Int32) :=
  gd (vi (mf s 14) 301) <|
  bS (ms s 6 (mf s 14) x0) fun s1 =>
  bS (mp s1 14 ((mf s1 14) + 1)) fun s2 =>
  bS (mp s2 32 x1) fun s3 =>
  some (s3, 1)
theorem sp_12022 {d : Nat} {G : ab_G} {ad : Nat → Nat} {I : Nat → Nat → Int32} {s : Mx} {P : ab_Pq} {X : ab_Xq} (hE : EM G ad) (hP : RepM I ad s) {x0 : Int32} {x1 : Int32}  {o : Mx × Int32} (ho : f_12022 x0 x1 s = some o) (h : ∀ I1, (o.2 = 0 ∨ o.2 = 1) → RepM I1 ad o.1 → FrM ad I I1 → P (gW G I1) (some (.int o.2))) : ab_Gam (d + 1) 12022 [.ref (ad 0), .int x0, .int x1] (gW G I) P X := by
  have h2 := h
  have hF : FrM ad I I := FrM_rfl
  unfold f_12022 at ho
  refine ab_enter (I := i12022) rfl (Nat.le_of_ble_eq_true rfl) (fun R hR => ?_)
  refine us_aload_n hR dX11_takes_0 rfl ?_
  refine us_getR hR dX11_takes_1 fR_12_26 hE.2.1 rfl (em_r_15 hE) ?_
  refine us_aload_n hR dX11_takes_4 rfl ?_
  refine us_getIx hR dX11_takes_5 fR_12_263 hE.2.1 rfl (RepM_f hP 14) ?_
  refine us_iload_n hR dX11_takes_8 rfl ?_
  have hg := gd_c ho
  rw [gd_e hg] at ho
  refine us_iastoreM hE hP (em_q_15 hE) hR dX11_takes_9 hg (fun I1 s1 hs1 hP1 hF1 => ?_)
  rw [← hs1, bS_eq] at ho
  have hF1 := hF.tr hF1
  refine us_aload_n hR dX11_takes_10 rfl ?_
  refine us_dup hR dX11_takes_11 rfl ?_
  refine us_getIx hR dX11_takes_12 fR_12_263 hE.2.1 rfl (RepM_f hP1 14) ?_
  refine us_iconstC hR dX11_takes_15 (c := 1) (by decide) ?_
  refine us_iadd hR dX11_takes_16 ?_
  refine us_putIM hE hP1 14 hR dX11_takes_17 fR_12_263 (Or.inl rfl) rfl rfl (fun I2 s2 hs2 hP2 hF2 => ?_)
  rw [← hs2, bS_eq] at ho
  have hF2 := hF1.tr hF2
  refine us_aload_n hR dX11_takes_20 rfl ?_
  refine us_iload_n hR dX11_takes_21 rfl ?_
  refine us_putIM hE hP2 32 hR dX11_takes_22 fR_12_266 (Or.inl rfl) rfl rfl (fun I3 s3 hs3 hP3 hF3 => ?_)
  rw [← hs3, bS_eq] at ho
  have hF3 := hF2.tr hF3
  refine us_iconstC hR dX11_takes_25 (c := 1) (by decide) ?_
  refine us_iret hR dX11_takes_26 rfl (nar01 (Or.inr rfl)) ?_
  cases ho
  exact h2 _ (Or.inr rfl) hP3 hF3
def f_12023  (s : Mx) : Option Mx :=
  bS (mp s 43 (mf s 16)) fun s1 =>
  gd (vi (mf s1 43) 100) <|
  bS (ms s1 7 (mf s1 43) (mf s1 14)) fun s2 =>
  bS (mp s2 16 ((mf s2 16) + 1)) fun s3 =>
  some s3
theorem sp_12023 {d : Nat} {G : ab_G} {ad : Nat → Nat} {I : Nat → Nat → Int32} {s : Mx} {P : ab_Pq} {X : ab_Xq} (hE : EM G ad) (hP : RepM I ad s)   {o : Mx} (ho : f_12023 s = some o) (h : ∀ I1, RepM I1 ad o → FrM ad I I1 → P (gW G I1) none) : ab_Gam (d + 1) 12023 [.ref (ad 0)] (gW G I) P X := by
  have h2 := h
  have hF : FrM ad I I := FrM_rfl
  unfold f_12023 at ho
  refine ab_enter (I := i12023) rfl (Nat.le_of_ble_eq_true rfl) (fun R hR => ?_)
  refine us_aload_n hR dX11_beginsPart_0 rfl ?_
  refine us_aload_n hR dX11_beginsPart_1 rfl ?_
  refine us_getIx hR dX11_beginsPart_2 fR_12_269 hE.2.1 rfl (RepM_f hP 16) ?_
  refine us_putIM hE hP 43 hR dX11_beginsPart_5 fR_12_272 (Or.inl rfl) rfl rfl (fun I1 s1 hs1 hP1 hF1 => ?_)
  rw [← hs1, bS_eq] at ho
  have hF1 := hF.tr hF1
  refine us_aload_n hR dX11_beginsPart_8 rfl ?_
  refine us_getR hR dX11_beginsPart_9 fR_12_29 hE.2.1 rfl (em_r_17 hE) ?_
  refine us_aload_n hR dX11_beginsPart_12 rfl ?_
  refine us_getIx hR dX11_beginsPart_13 fR_12_272 hE.2.1 rfl (RepM_f hP1 43) ?_
  refine us_aload_n hR dX11_beginsPart_16 rfl ?_
  refine us_getIx hR dX11_beginsPart_17 fR_12_263 hE.2.1 rfl (RepM_f hP1 14) ?_
  have hg := gd_c ho
  rw [gd_e hg] at ho
  refine us_iastoreM hE hP1 (em_q_17 hE) hR dX11_beginsPart_20 hg (fun I2 s2 hs2 hP2 hF2 => ?_)
  rw [← hs2, bS_eq] at ho
  have hF2 := hF1.tr hF2
  refine us_aload_n hR dX11_beginsPart_21 rfl ?_
  refine us_dup hR dX11_beginsPart_22 rfl ?_
  refine us_getIx hR dX11_beginsPart_23 fR_12_269 hE.2.1 rfl (RepM_f hP2 16) ?_
  refine us_iconstC hR dX11_beginsPart_26 (c := 1) (by decide) ?_
  refine us_iadd hR dX11_beginsPart_27 ?_
  refine us_putIM hE hP2 16 hR dX11_beginsPart_28 fR_12_269 (Or.inl rfl) rfl rfl (fun I3 s3 hs3 hP3 hF3 => ?_)
  rw [← hs3, bS_eq] at ho
  have hF3 := hF2.tr hF3
  refine us_vret hR dX11_beginsPart_31 rfl ?_
  cases ho
  exact h2 _ hP3 hF3
def f_12024 (x0 : Int32) (x1 : Int32) (s : Mx) : Option Mx :=
  gd (vi (mf s 35) 100) <|
  bS (ms s 20 (mf s 35) x0) fun s1 =>
  gd (vi (mf s1 35) 100) <|
  bS (ms s1 21 (mf s1 35) x1) fun s2 =>
  bS (mp s2 35 ((mf s2 35) + 1)) fun s3 =>
  some s3
theorem sp_12024 {d : Nat} {G : ab_G} {ad : Nat → Nat} {I : Nat → Nat → Int32} {s : Mx} {P : ab_Pq} {X : ab_Xq} (hE : EM G ad) (hP : RepM I ad s) {x0 : Int32} {x1 : Int32}  {o : Mx} (ho : f_12024 x0 x1 s = some o) (h : ∀ I1, RepM I1 ad o → FrM ad I I1 → P (gW G I1) none) : ab_Gam (d + 1) 12024 [.ref (ad 0), .int x0, .int x1] (gW G I) P X := by
  have h2 := h
  have hF : FrM ad I I := FrM_rfl
  unfold f_12024 at ho
  refine ab_enter (I := i12024) rfl (Nat.le_of_ble_eq_true rfl) (fun R hR => ?_)
  refine us_aload_n hR dX11_opens_0 rfl ?_
  refine us_getR hR dX11_opens_1 fR_12_68 hE.2.1 rfl (em_r_36 hE) ?_
  refine us_aload_n hR dX11_opens_4 rfl ?_
  refine us_getIx hR dX11_opens_5 fR_12_275 hE.2.1 rfl (RepM_f hP 35) ?_
  refine us_iload_n hR dX11_opens_8 rfl ?_
  have hg := gd_c ho
  rw [gd_e hg] at ho
  refine us_iastoreM hE hP (em_q_36 hE) hR dX11_opens_9 hg (fun I1 s1 hs1 hP1 hF1 => ?_)
  rw [← hs1, bS_eq] at ho
  have hF1 := hF.tr hF1
  refine us_aload_n hR dX11_opens_10 rfl ?_
  refine us_getR hR dX11_opens_11 fR_12_71 hE.2.1 rfl (em_r_37 hE) ?_
  refine us_aload_n hR dX11_opens_14 rfl ?_
  refine us_getIx hR dX11_opens_15 fR_12_275 hE.2.1 rfl (RepM_f hP1 35) ?_
  refine us_iload_n hR dX11_opens_18 rfl ?_
  have hg := gd_c ho
  rw [gd_e hg] at ho
  refine us_iastoreM hE hP1 (em_q_37 hE) hR dX11_opens_19 hg (fun I2 s2 hs2 hP2 hF2 => ?_)
  rw [← hs2, bS_eq] at ho
  have hF2 := hF1.tr hF2
  refine us_aload_n hR dX11_opens_20 rfl ?_
  refine us_dup hR dX11_opens_21 rfl ?_
  refine us_getIx hR dX11_opens_22 fR_12_275 hE.2.1 rfl (RepM_f hP2 35) ?_
  refine us_iconstC hR dX11_opens_25 (c := 1) (by decide) ?_
  refine us_iadd hR dX11_opens_26 ?_
  refine us_putIM hE hP2 35 hR dX11_opens_27 fR_12_275 (Or.inl rfl) rfl rfl (fun I3 s3 hs3 hP3 hF3 => ?_)
  rw [← hs3, bS_eq] at ho
  have hF3 := hF2.tr hF3
  refine us_vret hR dX11_opens_30 rfl ?_
  cases ho
  exact h2 _ hP3 hF3
