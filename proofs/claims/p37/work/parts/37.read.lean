/-! shadows: the reader -/
def f_5003  (s : Sx) : Int32 :=
  (xg (s.1 0) (s.2 2))
theorem sp_5003 {d : Nat} {G : ab_G} {ad : Nat → Nat} {I : Nat → Nat → Int32} {s : Sx} {P : ab_Pq} {X : ab_Xq} (hE : EV G ad) (hL : LR G ad) (hP : Rep I ad s)   (h : P (gW G I) (some (.int (f_5003 s)))) : ab_Gam (d + 2) 5003 [.ref (ad 2)] (gW G I) P X := by
  obtain ⟨o, ho⟩ : ∃ o, o = f_5003 s := ⟨_, rfl⟩
  rw [← ho] at h
  have h2 := h
  have hF : FrE ad I I := FrE_rfl
  unfold f_5003 at ho
  refine ab_enter (I := i5003) rfl (Nat.le_of_ble_eq_true rfl) (fun R hR => ?_)
  refine us_aload_n hR dX4_kind_0 rfl ?_
  refine us_getR hR dX4_kind_1 fR_5_42 (ev_k2 hE) rfl hL.2 ?_
  refine us_getR hR dX4_kind_4 fR_5_90 (ev_k1 hE) rfl (ev_r_1_0 hE) ?_
  refine us_aload_n hR dX4_kind_7 rfl ?_
  refine us_getIx hR dX4_kind_8 fR_5_46 (ev_k2 hE) rfl (Rep_v hP 2 (by decide)) ?_
  refine us_callV hR dX4_kind_11 (y := 6002) (by decide +kernel) (by decide) (J := i6002) rfl rfl rfl rfl (ev_rk hE (by decide)) rfl (Nat.le_of_ble_eq_true rfl) (Nat.zero_le _) (Nat.zero_le _) ?_
  refine cR_get hE hP 0 (by decide) ?_
  refine us_iret hR dX4_kind_14 rfl rfl ?_
  subst ho
  exact h2
def f_5004  (s : Sx) : Nat :=
  if (s.2 5) = 0 then
    13
  else
    14
theorem sp_5004 {d : Nat} {G : ab_G} {ad : Nat → Nat} {I : Nat → Nat → Int32} {s : Sx} {P : ab_Pq} {X : ab_Xq} (hE : EV G ad) (hL : LR G ad) (hP : Rep I ad s)   (h : P (gW G I) (some (.ref (ad (6 + (f_5004 s)))))) : ab_Gam (d + 1) 5004 [.ref (ad 2)] (gW G I) P X := by
  obtain ⟨o, ho⟩ : ∃ o, o = f_5004 s := ⟨_, rfl⟩
  rw [← ho] at h
  have h2 := h
  have hF : FrE ad I I := FrE_rfl
  unfold f_5004 at ho
  refine ab_enter (I := i5004) rfl (Nat.le_of_ble_eq_true rfl) (fun R hR => ?_)
  refine us_aload_n hR dX4_names_0 rfl ?_
  refine us_getIx hR dX4_names_1 fR_5_62 (ev_k2 hE) rfl (Rep_v hP 5 (by decide)) ?_
  refine us_if_eq hR dX4_names_4 14 (by decide) (fun c1 => ?_) (fun c1 => ?_)
  · rw [if_pos c1] at ho
    refine us_aload_n hR dX4_names_14 rfl ?_
    refine us_getR hR dX4_names_15 fR_5_14 (ev_k2 hE) rfl (ev_r_2_6 hE) ?_
    refine us_aret hR dX4_names_18 rfl rfl ?_
    subst ho
    exact h2
  · rw [if_neg c1] at ho
    refine us_aload_n hR dX4_names_7 rfl ?_
    refine us_getR hR dX4_names_8 fR_5_20 (ev_k2 hE) rfl (ev_r_2_7 hE) ?_
    refine us_goto hR dX4_names_11 18 (by decide) ?_
    refine us_aret hR dX4_names_18 rfl rfl ?_
    subst ho
    exact h2
theorem f_names_lt (s : Sx) : f_5004 s < 26 := by
  unfold f_5004
  split <;> decide
def f_5005_J26  (l1 : Int32) (l2 : Int32) (s : Sx) : Sx :=
  bS (sV s 2 (s.2 3)) fun s1 =>
  s1
def f_5005 (x0 : Int32) (x1 : Int32) (s : Sx) : Sx :=
  if (s.2 0) = 0 then
    bS (sV s 0 x0) fun s3 =>
    bS (sV s3 1 x1) fun s4 =>
    f_5005_J26 x0 x1 s4
  else
    f_5005_J26 x0 x1 s
theorem sp_5005 {d : Nat} {G : ab_G} {ad : Nat → Nat} {I : Nat → Nat → Int32} {s : Sx} {P : ab_Pq} {X : ab_Xq} (hE : EV G ad) (hL : LR G ad) (hP : Rep I ad s) {x0 : Int32} {x1 : Int32}  (h : ∀ I1 o, o = f_5005 x0 x1 s → Rep I1 ad o → FrE ad I I1 → P (gW G I1) none) : ab_Gam (d + 1) 5005 [.ref (ad 2), .int x0, .int x1] (gW G I) P X := by
  obtain ⟨o, ho⟩ : ∃ o, o = f_5005 x0 x1 s := ⟨_, rfl⟩
  have h2 := fun I1 => h I1 o ho
  have hF : FrE ad I I := FrE_rfl
  unfold f_5005 at ho
  refine ab_enter (I := i5005) rfl (Nat.le_of_ble_eq_true rfl) (fun R hR => ?_)
  have h5005_J26 : ∀ (l1 : Int32) (l2 : Int32)  (s : Sx) (Ia : Nat → Nat → Int32) (bc bs : Nat) (hPa : Rep Ia ad s) (hFa : FrE ad I Ia) (ho : o = f_5005_J26 l1 l2 s), R 26 [some (.ref (ad 2)), some (.int l1), some (.int l2)] [] (gW G Ia) bc bs := by
    intro l1 l2  s Ia bc bs  hPa hFa ho
    unfold f_5005_J26 at ho
    refine us_aload_n hR dX4_refuse_26 rfl ?_
    refine us_aload_n hR dX4_refuse_27 rfl ?_
    refine us_getIx hR dX4_refuse_28 fR_5_56 (ev_k2 hE) rfl (Rep_v hPa 3 (by decide)) ?_
    refine us_putIx hE hPa 2 (by decide) hR dX4_refuse_31 fR_5_46 (Or.inl rfl) (ev_k2 hE) rfl rfl (fun I1 s1 hs1 hP1 hF1 => ?_)
    rw [← hs1, bS_eq] at ho
    have hF1 := hFa.tr hF1
    refine us_vret hR dX4_refuse_34 rfl ?_
    subst ho
    exact h2 _ hP1 hF1
  refine us_aload_n hR dX4_refuse_0 rfl ?_
  refine us_getR hR dX4_refuse_1 fR_5_32 (ev_k2 hE) rfl hL.1 ?_
  refine us_getIx hR dX4_refuse_4 fR_5_87 (ev_k0 hE) rfl (Rep_v hP 0 (by decide)) ?_
  refine us_if_ne hR dX4_refuse_7 26 (by decide) (fun c2 => ?_) (fun c2 => ?_)
  · rw [if_neg c2] at ho
    exact h5005_J26 x0 x1  s I _ _ hP hF ho
  · rw [if_pos c2] at ho
    refine us_aload_n hR dX4_refuse_10 rfl ?_
    refine us_getR hR dX4_refuse_11 fR_5_32 (ev_k2 hE) rfl hL.1 ?_
    refine us_iload_n hR dX4_refuse_14 rfl ?_
    refine us_putIx hE hP 0 (by decide) hR dX4_refuse_15 fR_5_87 (Or.inl rfl) (ev_k0 hE) rfl rfl (fun I3 s3 hs3 hP3 hF3 => ?_)
    rw [← hs3, bS_eq] at ho
    have hF3 := hF.tr hF3
    refine us_aload_n hR dX4_refuse_18 rfl ?_
    refine us_getR hR dX4_refuse_19 fR_5_32 (ev_k2 hE) rfl hL.1 ?_
    refine us_iload_n hR dX4_refuse_22 rfl ?_
    refine us_putIx hE hP3 1 (by decide) hR dX4_refuse_23 fR_5_93 (Or.inl rfl) (ev_k0 hE) rfl rfl (fun I4 s4 hs4 hP4 hF4 => ?_)
    rw [← hs4, bS_eq] at ho
    have hF4 := hF3.tr hF4
    exact h5005_J26 x0 x1  s4 I4 _ _ hP4 hF4 ho
def f_5006 (x0 : Int32) (s : Sx) : Sx :=
  if (xg (s.1 0) (s.2 2)) = x0 then
    bS (sV s 2 ((s.2 2) + 1)) fun s4 =>
    s4
  else
    bS (f_5005 3 (s.2 2) s) fun s3 =>
    s3
theorem sp_5006 {d : Nat} {G : ab_G} {ad : Nat → Nat} {I : Nat → Nat → Int32} {s : Sx} {P : ab_Pq} {X : ab_Xq} (hE : EV G ad) (hL : LR G ad) (hP : Rep I ad s) {x0 : Int32}  (h : ∀ I1 o, o = f_5006 x0 s → Rep I1 ad o → FrE ad I I1 → P (gW G I1) none) : ab_Gam (d + 2) 5006 [.ref (ad 2), .int x0] (gW G I) P X := by
  obtain ⟨o, ho⟩ : ∃ o, o = f_5006 x0 s := ⟨_, rfl⟩
  have h2 := fun I1 => h I1 o ho
  have hF : FrE ad I I := FrE_rfl
  unfold f_5006 at ho
  refine ab_enter (I := i5006) rfl (Nat.le_of_ble_eq_true rfl) (fun R hR => ?_)
  refine us_aload_n hR dX4_expect_0 rfl ?_
  refine us_getR hR dX4_expect_1 fR_5_42 (ev_k2 hE) rfl hL.2 ?_
  refine us_getR hR dX4_expect_4 fR_5_90 (ev_k1 hE) rfl (ev_r_1_0 hE) ?_
  refine us_aload_n hR dX4_expect_7 rfl ?_
  refine us_getIx hR dX4_expect_8 fR_5_46 (ev_k2 hE) rfl (Rep_v hP 2 (by decide)) ?_
  refine us_callV hR dX4_expect_11 (y := 6002) (by decide +kernel) (by decide) (J := i6002) rfl rfl rfl rfl (ev_rk hE (by decide)) rfl (Nat.le_of_ble_eq_true rfl) (Nat.zero_le _) (Nat.zero_le _) ?_
  refine cR_get hE hP 0 (by decide) ?_
  refine us_iload_n hR dX4_expect_14 rfl ?_
  refine us_icmp_ne hR dX4_expect_15 31 (by decide) (fun c2 => ?_) (fun c2 => ?_)
  · rw [if_neg c2] at ho
    refine us_aload_n hR dX4_expect_31 rfl ?_
    refine us_iconstC hR dX4_expect_32 (c := 3) (by decide) ?_
    refine us_aload_n hR dX4_expect_33 rfl ?_
    refine us_getIx hR dX4_expect_34 fR_5_46 (ev_k2 hE) rfl (Rep_v hP 2 (by decide)) ?_
    refine us_callV hR dX4_expect_37 (y := 5005) (by decide +kernel) (by decide) (J := i5005) rfl rfl rfl rfl (ev_k2 hE) rfl (Nat.le_of_ble_eq_true rfl) (Nat.zero_le _) (Nat.zero_le _) ?_
    refine sp_5005 hE hL hP  (fun I3 s3 hs3 hP3 hF3 => ?_)
    rw [← hs3, bS_eq] at ho
    have hF3 := hF.tr hF3
    refine us_vret hR dX4_expect_40 rfl ?_
    subst ho
    exact h2 _ hP3 hF3
  · rw [if_pos c2] at ho
    refine us_aload_n hR dX4_expect_18 rfl ?_
    refine us_dup hR dX4_expect_19 rfl ?_
    refine us_getIx hR dX4_expect_20 fR_5_46 (ev_k2 hE) rfl (Rep_v hP 2 (by decide)) ?_
    refine us_iconstC hR dX4_expect_23 (c := 1) (by decide) ?_
    refine us_iadd hR dX4_expect_24 ?_
    refine us_putIx hE hP 2 (by decide) hR dX4_expect_25 fR_5_46 (Or.inl rfl) (ev_k2 hE) rfl rfl (fun I4 s4 hs4 hP4 hF4 => ?_)
    rw [← hs4, bS_eq] at ho
    have hF4 := hF.tr hF4
    refine us_goto hR dX4_expect_28 40 (by decide) ?_
    refine us_vret hR dX4_expect_40 rfl ?_
    subst ho
    exact h2 _ hP4 hF4
def f_5007  (s : Sx) : Sx :=
  if (s.2 4) < 8 then
    bS (sV s 4 ((s.2 4) + 1)) fun s2 =>
    bS (sV s2 2 ((s2.2 2) + 1)) fun s3 =>
    s3
  else
    bS (f_5005 4 (s.2 2) s) fun s4 =>
    s4
theorem sp_5007 {d : Nat} {G : ab_G} {ad : Nat → Nat} {I : Nat → Nat → Int32} {s : Sx} {P : ab_Pq} {X : ab_Xq} (hE : EV G ad) (hL : LR G ad) (hP : Rep I ad s)   (h : ∀ I1 o, o = f_5007 s → Rep I1 ad o → FrE ad I I1 → P (gW G I1) none) : ab_Gam (d + 2) 5007 [.ref (ad 2)] (gW G I) P X := by
  obtain ⟨o, ho⟩ : ∃ o, o = f_5007 s := ⟨_, rfl⟩
  have h2 := fun I1 => h I1 o ho
  have hF : FrE ad I I := FrE_rfl
  unfold f_5007 at ho
  refine ab_enter (I := i5007) rfl (Nat.le_of_ble_eq_true rfl) (fun R hR => ?_)
  refine us_aload_n hR dX4_openLevel_0 rfl ?_
  refine us_getIx hR dX4_openLevel_1 fR_5_59 (ev_k2 hE) rfl (Rep_v hP 4 (by decide)) ?_
  refine us_bipushC hR dX4_openLevel_4 (c := 8) (by decide) ?_
  refine us_icmp_lt hR dX4_openLevel_6 21 (by decide) (fun c1 => ?_) (fun c1 => ?_)
  · rw [if_pos c1] at ho
    refine us_aload_n hR dX4_openLevel_21 rfl ?_
    refine us_dup hR dX4_openLevel_22 rfl ?_
    refine us_getIx hR dX4_openLevel_23 fR_5_59 (ev_k2 hE) rfl (Rep_v hP 4 (by decide)) ?_
    refine us_iconstC hR dX4_openLevel_26 (c := 1) (by decide) ?_
    refine us_iadd hR dX4_openLevel_27 ?_
    refine us_putIx hE hP 4 (by decide) hR dX4_openLevel_28 fR_5_59 (Or.inl rfl) (ev_k2 hE) rfl rfl (fun I2 s2 hs2 hP2 hF2 => ?_)
    rw [← hs2, bS_eq] at ho
    have hF2 := hF.tr hF2
    refine us_aload_n hR dX4_openLevel_31 rfl ?_
    refine us_dup hR dX4_openLevel_32 rfl ?_
    refine us_getIx hR dX4_openLevel_33 fR_5_46 (ev_k2 hE) rfl (Rep_v hP2 2 (by decide)) ?_
    refine us_iconstC hR dX4_openLevel_36 (c := 1) (by decide) ?_
    refine us_iadd hR dX4_openLevel_37 ?_
    refine us_putIx hE hP2 2 (by decide) hR dX4_openLevel_38 fR_5_46 (Or.inl rfl) (ev_k2 hE) rfl rfl (fun I3 s3 hs3 hP3 hF3 => ?_)
    rw [← hs3, bS_eq] at ho
    have hF3 := hF2.tr hF3
    refine us_vret hR dX4_openLevel_41 rfl ?_
    subst ho
    exact h2 _ hP3 hF3
  · rw [if_neg c1] at ho
    refine us_aload_n hR dX4_openLevel_9 rfl ?_
    refine us_iconstC hR dX4_openLevel_10 (c := 4) (by decide) ?_
    refine us_aload_n hR dX4_openLevel_11 rfl ?_
    refine us_getIx hR dX4_openLevel_12 fR_5_46 (ev_k2 hE) rfl (Rep_v hP 2 (by decide)) ?_
    refine us_callV hR dX4_openLevel_15 (y := 5005) (by decide +kernel) (by decide) (J := i5005) rfl rfl rfl rfl (ev_k2 hE) rfl (Nat.le_of_ble_eq_true rfl) (Nat.zero_le _) (Nat.zero_le _) ?_
    refine sp_5005 hE hL hP  (fun I4 s4 hs4 hP4 hF4 => ?_)
    rw [← hs4, bS_eq] at ho
    have hF4 := hF.tr hF4
    refine us_goto hR dX4_openLevel_18 41 (by decide) ?_
    refine us_vret hR dX4_openLevel_41 rfl ?_
    subst ho
    exact h2 _ hP4 hF4
def f_5002  (s : Sx) : Sx :=
  if (s.2 0) = 3 then
    if (xg (s.1 0) (s.2 1)) = 1 then
      bS (sV s 0 1) fun s7 =>
      s7
    else
      if (xg (s.1 0) (s.2 1)) = 2 then
        bS (sV s 0 2) fun s6 =>
        s6
      else
        bS (sV s 0 3) fun s5 =>
        s5
  else
    s
theorem sp_5002 {d : Nat} {G : ab_G} {ad : Nat → Nat} {I : Nat → Nat → Int32} {s : Sx} {P : ab_Pq} {X : ab_Xq} (hE : EV G ad) (hL : LR G ad) (hP : Rep I ad s)   (h : ∀ I1 o, o = f_5002 s → Rep I1 ad o → FrE ad I I1 → P (gW G I1) none) : ab_Gam (d + 2) 5002 [.ref (ad 2)] (gW G I) P X := by
  obtain ⟨o, ho⟩ : ∃ o, o = f_5002 s := ⟨_, rfl⟩
  have h2 := fun I1 => h I1 o ho
  have hF : FrE ad I I := FrE_rfl
  unfold f_5002 at ho
  refine ab_enter (I := i5002) rfl (Nat.le_of_ble_eq_true rfl) (fun R hR => ?_)
  refine us_aload_n hR dX4_nameFault_0 rfl ?_
  refine us_getR hR dX4_nameFault_1 fR_5_32 (ev_k2 hE) rfl hL.1 ?_
  refine us_getIx hR dX4_nameFault_4 fR_5_87 (ev_k0 hE) rfl (Rep_v hP 0 (by decide)) ?_
  refine us_iconstC hR dX4_nameFault_7 (c := 3) (by decide) ?_
  refine us_icmp_ne hR dX4_nameFault_8 55 (by decide) (fun c1 => ?_) (fun c1 => ?_)
  · rw [if_neg c1] at ho
    refine us_vret hR dX4_nameFault_55 rfl ?_
    subst ho
    exact h2 _ hP hF
  · rw [if_pos c1] at ho
    refine us_aload_n hR dX4_nameFault_11 rfl ?_
    refine us_getR hR dX4_nameFault_12 fR_5_42 (ev_k2 hE) rfl hL.2 ?_
    refine us_getR hR dX4_nameFault_15 fR_5_90 (ev_k1 hE) rfl (ev_r_1_0 hE) ?_
    refine us_aload_n hR dX4_nameFault_18 rfl ?_
    refine us_getR hR dX4_nameFault_19 fR_5_32 (ev_k2 hE) rfl hL.1 ?_
    refine us_getIx hR dX4_nameFault_22 fR_5_93 (ev_k0 hE) rfl (Rep_v hP 1 (by decide)) ?_
    refine us_callV hR dX4_nameFault_25 (y := 6002) (by decide +kernel) (by decide) (J := i6002) rfl rfl rfl rfl (ev_rk hE (by decide)) rfl (Nat.le_of_ble_eq_true rfl) (Nat.zero_le _) (Nat.zero_le _) ?_
    refine cR_get hE hP 0 (by decide) ?_
    refine us_istore_n hR dX4_nameFault_28 (Nat.le_of_ble_eq_true rfl) ?_
    refine us_aload_n hR dX4_nameFault_29 rfl ?_
    refine us_getR hR dX4_nameFault_30 fR_5_32 (ev_k2 hE) rfl hL.1 ?_
    refine us_iload_n hR dX4_nameFault_33 rfl ?_
    refine us_iconstC hR dX4_nameFault_34 (c := 1) (by decide) ?_
    refine us_icmp_ne hR dX4_nameFault_35 42 (by decide) (fun c3 => ?_) (fun c3 => ?_)
    · rw [if_neg c3] at ho
      refine us_iload_n hR dX4_nameFault_42 rfl ?_
      refine us_iconstC hR dX4_nameFault_43 (c := 2) (by decide) ?_
      refine us_icmp_ne hR dX4_nameFault_44 51 (by decide) (fun c4 => ?_) (fun c4 => ?_)
      · rw [if_neg c4] at ho
        refine us_iconstC hR dX4_nameFault_51 (c := 3) (by decide) ?_
        refine us_putIx hE hP 0 (by decide) hR dX4_nameFault_52 fR_5_87 (Or.inl rfl) (ev_k0 hE) rfl rfl (fun I5 s5 hs5 hP5 hF5 => ?_)
        rw [← hs5, bS_eq] at ho
        have hF5 := hF.tr hF5
        refine us_vret hR dX4_nameFault_55 rfl ?_
        subst ho
        exact h2 _ hP5 hF5
      · rw [if_pos c4] at ho
        refine us_iconstC hR dX4_nameFault_47 (c := 2) (by decide) ?_
        refine us_goto hR dX4_nameFault_48 52 (by decide) ?_
        refine us_putIx hE hP 0 (by decide) hR dX4_nameFault_52 fR_5_87 (Or.inl rfl) (ev_k0 hE) rfl rfl (fun I6 s6 hs6 hP6 hF6 => ?_)
        rw [← hs6, bS_eq] at ho
        have hF6 := hF.tr hF6
        refine us_vret hR dX4_nameFault_55 rfl ?_
        subst ho
        exact h2 _ hP6 hF6
    · rw [if_pos c3] at ho
      refine us_iconstC hR dX4_nameFault_38 (c := 1) (by decide) ?_
      refine us_goto hR dX4_nameFault_39 52 (by decide) ?_
      refine us_putIx hE hP 0 (by decide) hR dX4_nameFault_52 fR_5_87 (Or.inl rfl) (ev_k0 hE) rfl rfl (fun I7 s7 hs7 hP7 hF7 => ?_)
      rw [← hs7, bS_eq] at ho
      have hF7 := hF.tr hF7
      refine us_vret hR dX4_nameFault_55 rfl ?_
      subst ho
      exact h2 _ hP7 hF7
def f_5022_J67  (l1 : Nat) (l2 : Int32) (s : Sx) : Sx × Int32 :=
  bS (sB s 0 (xset (s.1 0) (s.2 2) 34)) fun s1 =>
  bS (sB s1 1 (xset (s1.1 1) (s1.2 2) l2)) fun s2 =>
  bS (sV s2 2 ((s2.2 2) + 1)) fun s3 =>
  (s3, l2)
def f_5022 (x0 : Nat) (s : Sx) : Sx × Int32 :=
  if (xpos (s.1 x0) (xg (s.1 1) (s.2 2))) = (-1) then
    if (nI (s.1 x0).length) < 8 then
      bS (sB s x0 (xadd (ev_cap x0) (s.1 x0) (xg (s.1 1) (s.2 2)))) fun s11 =>
      f_5022_J67 x0 (nI (s.1 x0).length) s11
    else
      bS (f_5005 5 (s.2 2) s) fun s12 =>
      (s12, 0)
  else
    f_5022_J67 x0 (xpos (s.1 x0) (xg (s.1 1) (s.2 2))) s
theorem sp_5022 {d : Nat} {G : ab_G} {ad : Nat → Nat} {I : Nat → Nat → Int32} {s : Sx} {P : ab_Pq} {X : ab_Xq} (hE : EV G ad) (hL : LR G ad) (hP : Rep I ad s) {x0 : Nat} (hx0 : x0 < 26) (h : ∀ I1 o, o = f_5022 x0 s → Rep I1 ad o.1 → FrE ad I I1 → P (gW G I1) (some (.int o.2))) : ab_Gam (d + 2) 5022 [.ref (ad 2), .ref (ad (6 + x0))] (gW G I) P X := by
  obtain ⟨o, ho⟩ : ∃ o, o = f_5022 x0 s := ⟨_, rfl⟩
  have h2 := fun I1 => h I1 o ho
  have hF : FrE ad I I := FrE_rfl
  unfold f_5022 at ho
  refine ab_enter (I := i5022) rfl (Nat.le_of_ble_eq_true rfl) (fun R hR => ?_)
  have h5022_J67 : ∀ (l1 : Nat) (l2 : Int32)  (s : Sx) (Ia : Nat → Nat → Int32) (bc bs : Nat) (hl1 : l1 < 26) (hPa : Rep Ia ad s) (hFa : FrE ad I Ia) (ho : o = f_5022_J67 l1 l2 s), R 67 [some (.ref (ad 2)), some (.ref (ad (6 + l1))), some (.int l2)] [] (gW G Ia) bc bs := by
    intro l1 l2  s Ia bc bs hl1 hPa hFa ho
    unfold f_5022_J67 at ho
    refine us_aload_n hR dX4_variable_67 rfl ?_
    refine us_getR hR dX4_variable_68 fR_5_42 (ev_k2 hE) rfl hL.2 ?_
    refine us_getR hR dX4_variable_71 fR_5_90 (ev_k1 hE) rfl (ev_r_1_0 hE) ?_
    refine us_aload_n hR dX4_variable_74 rfl ?_
    refine us_getIx hR dX4_variable_75 fR_5_46 (ev_k2 hE) rfl (Rep_v hPa 2 (by decide)) ?_
    refine us_bipushC hR dX4_variable_78 (c := 34) (by decide) ?_
    refine us_callV hR dX4_variable_80 (y := 6003) (by decide +kernel) (by decide) (J := i6003) rfl rfl rfl rfl (ev_rk hE (by decide)) rfl (Nat.le_of_ble_eq_true rfl) (Nat.zero_le _) (Nat.zero_le _) ?_
    refine cR_set hE hPa 0 (by decide) (fun I1 s1 hs1 hP1 hF1 => ?_)
    rw [← hs1, bS_eq] at ho
    have hF1 := hFa.tr hF1
    refine us_aload_n hR dX4_variable_83 rfl ?_
    refine us_getR hR dX4_variable_84 fR_5_42 (ev_k2 hE) rfl hL.2 ?_
    refine us_getR hR dX4_variable_87 fR_5_163 (ev_k1 hE) rfl (ev_r_1_1 hE) ?_
    refine us_aload_n hR dX4_variable_90 rfl ?_
    refine us_getIx hR dX4_variable_91 fR_5_46 (ev_k2 hE) rfl (Rep_v hP1 2 (by decide)) ?_
    refine us_iload_n hR dX4_variable_94 rfl ?_
    refine us_callV hR dX4_variable_95 (y := 6003) (by decide +kernel) (by decide) (J := i6003) rfl rfl rfl rfl (ev_rk hE (by decide)) rfl (Nat.le_of_ble_eq_true rfl) (Nat.zero_le _) (Nat.zero_le _) ?_
    refine cR_set hE hP1 1 (by decide) (fun I2 s2 hs2 hP2 hF2 => ?_)
    rw [← hs2, bS_eq] at ho
    have hF2 := hF1.tr hF2
    refine us_aload_n hR dX4_variable_98 rfl ?_
    refine us_dup hR dX4_variable_99 rfl ?_
    refine us_getIx hR dX4_variable_100 fR_5_46 (ev_k2 hE) rfl (Rep_v hP2 2 (by decide)) ?_
    refine us_iconstC hR dX4_variable_103 (c := 1) (by decide) ?_
    refine us_iadd hR dX4_variable_104 ?_
    refine us_putIx hE hP2 2 (by decide) hR dX4_variable_105 fR_5_46 (Or.inl rfl) (ev_k2 hE) rfl rfl (fun I3 s3 hs3 hP3 hF3 => ?_)
    rw [← hs3, bS_eq] at ho
    have hF3 := hF2.tr hF3
    refine us_iload_n hR dX4_variable_108 rfl ?_
    refine us_iret hR dX4_variable_109 rfl rfl ?_
    subst ho
    exact h2 _ hP3 hF3
  refine us_aload_n hR dX4_variable_0 rfl ?_
  refine us_aload_n hR dX4_variable_1 rfl ?_
  refine us_getR hR dX4_variable_2 fR_5_42 (ev_k2 hE) rfl hL.2 ?_
  refine us_getR hR dX4_variable_5 fR_5_163 (ev_k1 hE) rfl (ev_r_1_1 hE) ?_
  refine us_aload_n hR dX4_variable_8 rfl ?_
  refine us_getIx hR dX4_variable_9 fR_5_46 (ev_k2 hE) rfl (Rep_v hP 2 (by decide)) ?_
  refine us_callV hR dX4_variable_12 (y := 6002) (by decide +kernel) (by decide) (J := i6002) rfl rfl rfl rfl (ev_rk hE (by decide)) rfl (Nat.le_of_ble_eq_true rfl) (Nat.zero_le _) (Nat.zero_le _) ?_
  refine cR_get hE hP 1 (by decide) ?_
  refine us_callV hR dX4_variable_15 (y := 6010) (by decide +kernel) (by decide) (J := i6010) rfl rfl rfl rfl (ev_rk hE hx0) rfl (Nat.le_of_ble_eq_true rfl) (Nat.zero_le _) (Nat.zero_le _) ?_
  refine cR_placeOf hE hP x0 hx0 ?_
  refine us_istore_n hR dX4_variable_18 (Nat.le_of_ble_eq_true rfl) ?_
  refine us_iload_n hR dX4_variable_19 rfl ?_
  refine us_iconstC hR dX4_variable_20 (c := (-1)) (by decide) ?_
  refine us_icmp_ne hR dX4_variable_21 67 (by decide) (fun c6 => ?_) (fun c6 => ?_)
  · rw [if_neg c6] at ho
    exact h5022_J67 x0 (xpos (s.1 x0) (xg (s.1 1) (s.2 2)))  s I _ _ hx0 hP hF ho
  · rw [if_pos c6] at ho
    refine us_aload_n hR dX4_variable_24 rfl ?_
    refine us_callV hR dX4_variable_25 (y := 6001) (by decide +kernel) (by decide) (J := i6001) rfl rfl rfl rfl (ev_rk hE hx0) rfl (Nat.le_of_ble_eq_true rfl) (Nat.zero_le _) (Nat.zero_le _) ?_
    refine cR_size hE hP x0 hx0 ?_
    refine us_bipushC hR dX4_variable_28 (c := 8) (by decide) ?_
    refine us_icmp_lt hR dX4_variable_30 44 (by decide) (fun c8 => ?_) (fun c8 => ?_)
    · rw [if_pos c8] at ho
      refine us_aload_n hR dX4_variable_44 rfl ?_
      refine us_callV hR dX4_variable_45 (y := 6001) (by decide +kernel) (by decide) (J := i6001) rfl rfl rfl rfl (ev_rk hE hx0) rfl (Nat.le_of_ble_eq_true rfl) (Nat.zero_le _) (Nat.zero_le _) ?_
      refine cR_size hE hP x0 hx0 ?_
      refine us_istore_n hR dX4_variable_48 (Nat.le_of_ble_eq_true rfl) ?_
      refine us_aload_n hR dX4_variable_49 rfl ?_
      refine us_aload_n hR dX4_variable_50 rfl ?_
      refine us_getR hR dX4_variable_51 fR_5_42 (ev_k2 hE) rfl hL.2 ?_
      refine us_getR hR dX4_variable_54 fR_5_163 (ev_k1 hE) rfl (ev_r_1_1 hE) ?_
      refine us_aload_n hR dX4_variable_57 rfl ?_
      refine us_getIx hR dX4_variable_58 fR_5_46 (ev_k2 hE) rfl (Rep_v hP 2 (by decide)) ?_
      refine us_callV hR dX4_variable_61 (y := 6002) (by decide +kernel) (by decide) (J := i6002) rfl rfl rfl rfl (ev_rk hE (by decide)) rfl (Nat.le_of_ble_eq_true rfl) (Nat.zero_le _) (Nat.zero_le _) ?_
      refine cR_get hE hP 1 (by decide) ?_
      refine us_callV hR dX4_variable_64 (y := 6004) (by decide +kernel) (by decide) (J := i6004) rfl rfl rfl rfl (ev_rk hE hx0) rfl (Nat.le_of_ble_eq_true rfl) (Nat.zero_le _) (Nat.zero_le _) ?_
      refine cR_add hE hP x0 hx0 (fun I11 s11 hs11 hP11 hF11 => ?_)
      rw [← hs11, bS_eq] at ho
      have hF11 := hF.tr hF11
      exact h5022_J67 x0 (nI (s.1 x0).length)  s11 I11 _ _ hx0 hP11 hF11 ho
    · rw [if_neg c8] at ho
      refine us_aload_n hR dX4_variable_33 rfl ?_
      refine us_iconstC hR dX4_variable_34 (c := 5) (by decide) ?_
      refine us_aload_n hR dX4_variable_35 rfl ?_
      refine us_getIx hR dX4_variable_36 fR_5_46 (ev_k2 hE) rfl (Rep_v hP 2 (by decide)) ?_
      refine us_callV hR dX4_variable_39 (y := 5005) (by decide +kernel) (by decide) (J := i5005) rfl rfl rfl rfl (ev_k2 hE) rfl (Nat.le_of_ble_eq_true rfl) (Nat.zero_le _) (Nat.zero_le _) ?_
      refine sp_5005 hE hL hP  (fun I12 s12 hs12 hP12 hF12 => ?_)
      rw [← hs12, bS_eq] at ho
      have hF12 := hF.tr hF12
      refine us_iconstC hR dX4_variable_42 (c := 0) (by decide) ?_
      refine us_iret hR dX4_variable_43 rfl rfl ?_
      subst ho
      exact h2 _ hP12 hF12
def f_5016  (s : Sx) : Sx :=
  if (f_5003 s) = 4 then
    if (xpos (s.1 14) (xg (s.1 1) (s.2 2))) = (-1) then
      bT (f_5022 14 s) fun s6 r6 =>
      s6
    else
      bS (f_5005 6 (s.2 2) s) fun s7 =>
      s7
  else
    bS (f_5005 3 (s.2 2) s) fun s8 =>
    s8
theorem sp_5016 {d : Nat} {G : ab_G} {ad : Nat → Nat} {I : Nat → Nat → Int32} {s : Sx} {P : ab_Pq} {X : ab_Xq} (hE : EV G ad) (hL : LR G ad) (hP : Rep I ad s)   (h : ∀ I1 o, o = f_5016 s → Rep I1 ad o → FrE ad I I1 → P (gW G I1) none) : ab_Gam (d + 3) 5016 [.ref (ad 2)] (gW G I) P X := by
  obtain ⟨o, ho⟩ : ∃ o, o = f_5016 s := ⟨_, rfl⟩
  have h2 := fun I1 => h I1 o ho
  have hF : FrE ad I I := FrE_rfl
  unfold f_5016 at ho
  refine ab_enter (I := i5016) rfl (Nat.le_of_ble_eq_true rfl) (fun R hR => ?_)
  refine us_aload_n hR dX4_parameter_0 rfl ?_
  refine us_callV hR dX4_parameter_1 (y := 5003) (by decide +kernel) (by decide) (J := i5003) rfl rfl rfl rfl (ev_k2 hE) rfl (Nat.le_of_ble_eq_true rfl) (Nat.zero_le _) (Nat.zero_le _) ?_
  refine sp_5003 hE hL hP  ?_
  refine us_iconstC hR dX4_parameter_4 (c := 4) (by decide) ?_
  refine us_icmp_eq hR dX4_parameter_5 20 (by decide) (fun c2 => ?_) (fun c2 => ?_)
  · rw [if_pos c2] at ho
    refine us_aload_n hR dX4_parameter_20 rfl ?_
    refine us_getR hR dX4_parameter_21 fR_5_20 (ev_k2 hE) rfl (ev_r_2_7 hE) ?_
    refine us_aload_n hR dX4_parameter_24 rfl ?_
    refine us_getR hR dX4_parameter_25 fR_5_42 (ev_k2 hE) rfl hL.2 ?_
    refine us_getR hR dX4_parameter_28 fR_5_163 (ev_k1 hE) rfl (ev_r_1_1 hE) ?_
    refine us_aload_n hR dX4_parameter_31 rfl ?_
    refine us_getIx hR dX4_parameter_32 fR_5_46 (ev_k2 hE) rfl (Rep_v hP 2 (by decide)) ?_
    refine us_callV hR dX4_parameter_35 (y := 6002) (by decide +kernel) (by decide) (J := i6002) rfl rfl rfl rfl (ev_rk hE (by decide)) rfl (Nat.le_of_ble_eq_true rfl) (Nat.zero_le _) (Nat.zero_le _) ?_
    refine cR_get hE hP 1 (by decide) ?_
    refine us_callV hR dX4_parameter_38 (y := 6010) (by decide +kernel) (by decide) (J := i6010) rfl rfl rfl rfl (ev_rk hE (by decide)) rfl (Nat.le_of_ble_eq_true rfl) (Nat.zero_le _) (Nat.zero_le _) ?_
    refine cR_placeOf hE hP 14 (by decide) ?_
    refine us_iconstC hR dX4_parameter_41 (c := (-1)) (by decide) ?_
    refine us_icmp_eq hR dX4_parameter_42 58 (by decide) (fun c5 => ?_) (fun c5 => ?_)
    · rw [if_pos c5] at ho
      refine us_aload_n hR dX4_parameter_58 rfl ?_
      refine us_aload_n hR dX4_parameter_59 rfl ?_
      refine us_getR hR dX4_parameter_60 fR_5_20 (ev_k2 hE) rfl (ev_r_2_7 hE) ?_
      refine us_callV hR dX4_parameter_63 (y := 5022) (by decide +kernel) (by decide) (J := i5022) rfl rfl rfl rfl (ev_k2 hE) rfl (Nat.le_of_ble_eq_true rfl) (Nat.zero_le _) (Nat.zero_le _) ?_
      refine sp_5022 hE hL hP (by decide) (fun I6 q6 hs6 hP6 hF6 => ?_)
      rw [← hs6] at ho
      obtain ⟨s6, r6⟩ := q6
      rw [bT_eq] at ho
      have hF6 := hF.tr hF6
      refine us_pop hR dX4_parameter_66 rfl ?_
      refine us_vret hR dX4_parameter_67 rfl ?_
      subst ho
      exact h2 _ hP6 hF6
    · rw [if_neg c5] at ho
      refine us_aload_n hR dX4_parameter_45 rfl ?_
      refine us_bipushC hR dX4_parameter_46 (c := 6) (by decide) ?_
      refine us_aload_n hR dX4_parameter_48 rfl ?_
      refine us_getIx hR dX4_parameter_49 fR_5_46 (ev_k2 hE) rfl (Rep_v hP 2 (by decide)) ?_
      refine us_callV hR dX4_parameter_52 (y := 5005) (by decide +kernel) (by decide) (J := i5005) rfl rfl rfl rfl (ev_k2 hE) rfl (Nat.le_of_ble_eq_true rfl) (Nat.zero_le _) (Nat.zero_le _) ?_
      refine sp_5005 hE hL hP  (fun I7 s7 hs7 hP7 hF7 => ?_)
      rw [← hs7, bS_eq] at ho
      have hF7 := hF.tr hF7
      refine us_goto hR dX4_parameter_55 67 (by decide) ?_
      refine us_vret hR dX4_parameter_67 rfl ?_
      subst ho
      exact h2 _ hP7 hF7
  · rw [if_neg c2] at ho
    refine us_aload_n hR dX4_parameter_8 rfl ?_
    refine us_iconstC hR dX4_parameter_9 (c := 3) (by decide) ?_
    refine us_aload_n hR dX4_parameter_10 rfl ?_
    refine us_getIx hR dX4_parameter_11 fR_5_46 (ev_k2 hE) rfl (Rep_v hP 2 (by decide)) ?_
    refine us_callV hR dX4_parameter_14 (y := 5005) (by decide +kernel) (by decide) (J := i5005) rfl rfl rfl rfl (ev_k2 hE) rfl (Nat.le_of_ble_eq_true rfl) (Nat.zero_le _) (Nat.zero_le _) ?_
    refine sp_5005 hE hL hP  (fun I8 s8 hs8 hP8 hF8 => ?_)
    rw [← hs8, bS_eq] at ho
    have hF8 := hF.tr hF8
    refine us_goto hR dX4_parameter_17 67 (by decide) ?_
    refine us_vret hR dX4_parameter_67 rfl ?_
    subst ho
    exact h2 _ hP8 hF8
def f_5015_J81   (s : Sx) : Option Sx :=
  bS (f_5006 29 s) fun s1 =>
  bS (sV s1 4 ((s1.2 4) - 1)) fun s2 =>
  some s2
def f_5015_L45  : Nat → Int32 → Sx → Option Sx
  | 0, _, _ => none
  | n + 1, l1, s =>
    if 300 ≤ l1 then
      f_5015_J81  s
    else
      if (f_5003 s) = 32 then
        bS (sV s 2 ((s.2 2) + 1)) fun s6 =>
        bS (f_5016 s6) fun s7 =>
        f_5015_L45 n (l1 + 1) s7
      else
        f_5015_J81  s
def f_5015  (s : Sx) : Option Sx :=
  bS (sB s 14 []) fun s8 =>
  if (f_5003 s8) = 28 then
    bS (f_5007 s8) fun s11 =>
    if (f_5003 s11) = 29 then
      f_5015_J81  s11
    else
      bS (f_5016 s11) fun s14 =>
      f_5015_L45 400 0 s14
  else
    bS (f_5005 3 (s8.2 2) s8) fun s15 =>
    some s15
theorem sp_5015 {d : Nat} {G : ab_G} {ad : Nat → Nat} {I : Nat → Nat → Int32} {s : Sx} {P : ab_Pq} {X : ab_Xq} (hE : EV G ad) (hL : LR G ad) (hP : Rep I ad s)   {o : Sx} (ho : f_5015 s = some o) (h : ∀ I1, Rep I1 ad o → FrE ad I I1 → P (gW G I1) none) : ab_Gam (d + 4) 5015 [.ref (ad 2)] (gW G I) P X := by
  have h2 := h
  have hF : FrE ad I I := FrE_rfl
  unfold f_5015 at ho
  refine ab_enter (I := i5015) rfl (Nat.le_of_ble_eq_true rfl) (fun R hR => ?_)
  have h5015_J81 : ∀  (w1 : Option Value) (s : Sx) (Ia : Nat → Nat → Int32) (bc bs : Nat) (hPa : Rep Ia ad s) (hFa : FrE ad I Ia) (ho : f_5015_J81  s = some o), R 81 [some (.ref (ad 2)), w1] [] (gW G Ia) bc bs := by
    intro  w1 s Ia bc bs  hPa hFa ho
    unfold f_5015_J81 at ho
    refine us_aload_n hR dX4_parameters_81 rfl ?_
    refine us_bipushC hR dX4_parameters_82 (c := 29) (by decide) ?_
    refine us_callV hR dX4_parameters_84 (y := 5006) (by decide +kernel) (by decide) (J := i5006) rfl rfl rfl rfl (ev_k2 hE) rfl (Nat.le_of_ble_eq_true rfl) (Nat.zero_le _) (Nat.zero_le _) ?_
    refine sp_5006 hE hL hPa  (fun I1 s1 hs1 hP1 hF1 => ?_)
    rw [← hs1, bS_eq] at ho
    have hF1 := hFa.tr hF1
    refine us_aload_n hR dX4_parameters_87 rfl ?_
    refine us_dup hR dX4_parameters_88 rfl ?_
    refine us_getIx hR dX4_parameters_89 fR_5_59 (ev_k2 hE) rfl (Rep_v hP1 4 (by decide)) ?_
    refine us_iconstC hR dX4_parameters_92 (c := 1) (by decide) ?_
    refine us_isub hR dX4_parameters_93 ?_
    refine us_putIx hE hP1 4 (by decide) hR dX4_parameters_94 fR_5_59 (Or.inl rfl) (ev_k2 hE) rfl rfl (fun I2 s2 hs2 hP2 hF2 => ?_)
    rw [← hs2, bS_eq] at ho
    have hF2 := hF1.tr hF2
    refine us_vret hR dX4_parameters_97 rfl ?_
    cases ho
    exact h2 _ hP2 hF2
  have h5015_L45 : ∀ (n : Nat) (l1 : Int32)  (s : Sx) (Ia : Nat → Nat → Int32) (bc bs : Nat) (hPa : Rep Ia ad s) (hFa : FrE ad I Ia) (ho : f_5015_L45 n l1 s = some o), R 45 [some (.ref (ad 2)), some (.int l1)] [] (gW G Ia) bc bs := by
    intro n
    induction n with
    | zero => intro l1  s Ia bc bs  hPa hFa ho; exact absurd ho (by intro hc; cases hc)
    | succ n45 ih45 =>
      intro l1  s Ia bc bs  hPa hFa ho
      rw [f_5015_L45] at ho
      refine us_iload_n hR dX4_parameters_45 rfl ?_
      refine us_sipushC hR dX4_parameters_46 (c := 300) (by decide) ?_
      refine us_icmp_ge hR dX4_parameters_49 81 (by decide) (fun c3 => ?_) (fun c3 => ?_)
      · rw [if_pos c3] at ho
        exact h5015_J81  _ s Ia _ _ hPa hFa ho
      · rw [if_neg c3] at ho
        refine us_aload_n hR dX4_parameters_52 rfl ?_
        refine us_callV hR dX4_parameters_53 (y := 5003) (by decide +kernel) (by decide) (J := i5003) rfl rfl rfl rfl (ev_k2 hE) rfl (Nat.le_of_ble_eq_true rfl) (Nat.zero_le _) (Nat.zero_le _) ?_
        refine sp_5003 hE hL hPa  ?_
        refine us_bipushC hR dX4_parameters_56 (c := 32) (by decide) ?_
        refine us_icmp_ne hR dX4_parameters_58 81 (by decide) (fun c5 => ?_) (fun c5 => ?_)
        · rw [if_neg c5] at ho
          exact h5015_J81  _ s Ia _ _ hPa hFa ho
        · rw [if_pos c5] at ho
          refine us_aload_n hR dX4_parameters_61 rfl ?_
          refine us_dup hR dX4_parameters_62 rfl ?_
          refine us_getIx hR dX4_parameters_63 fR_5_46 (ev_k2 hE) rfl (Rep_v hPa 2 (by decide)) ?_
          refine us_iconstC hR dX4_parameters_66 (c := 1) (by decide) ?_
          refine us_iadd hR dX4_parameters_67 ?_
          refine us_putIx hE hPa 2 (by decide) hR dX4_parameters_68 fR_5_46 (Or.inl rfl) (ev_k2 hE) rfl rfl (fun I6 s6 hs6 hP6 hF6 => ?_)
          rw [← hs6, bS_eq] at ho
          have hF6 := hFa.tr hF6
          refine us_aload_n hR dX4_parameters_71 rfl ?_
          refine us_callV hR dX4_parameters_72 (y := 5016) (by decide +kernel) (by decide) (J := i5016) rfl rfl rfl rfl (ev_k2 hE) rfl (Nat.le_of_ble_eq_true rfl) (Nat.zero_le _) (Nat.zero_le _) ?_
          refine sp_5016 hE hL hP6  (fun I7 s7 hs7 hP7 hF7 => ?_)
          rw [← hs7, bS_eq] at ho
          have hF7 := hF6.tr hF7
          refine us_iincC hR dX4_parameters_75 rfl (Nat.le_of_ble_eq_true rfl) (c := 1) (by decide) ?_
          refine us_goto hR dX4_parameters_78 45 (by decide) ?_
          exact ih45 (l1 + 1)  s7 I7 _ _ hP7 hF7 ho
  refine us_aload_n hR dX4_parameters_0 rfl ?_
  refine us_getR hR dX4_parameters_1 fR_5_20 (ev_k2 hE) rfl (ev_r_2_7 hE) ?_
  refine us_callV hR dX4_parameters_4 (y := 6008) (by decide +kernel) (by decide) (J := i6008) rfl rfl rfl rfl (ev_rk hE (by decide)) rfl (Nat.le_of_ble_eq_true rfl) (Nat.zero_le _) (Nat.zero_le _) ?_
  refine cR_empty hE hP 14 (by decide) (fun I8 s8 hs8 hP8 hF8 => ?_)
  rw [← hs8, bS_eq] at ho
  have hF8 := hF.tr hF8
  refine us_aload_n hR dX4_parameters_7 rfl ?_
  refine us_callV hR dX4_parameters_8 (y := 5003) (by decide +kernel) (by decide) (J := i5003) rfl rfl rfl rfl (ev_k2 hE) rfl (Nat.le_of_ble_eq_true rfl) (Nat.zero_le _) (Nat.zero_le _) ?_
  refine sp_5003 hE hL hP8  ?_
  refine us_bipushC hR dX4_parameters_11 (c := 28) (by decide) ?_
  refine us_icmp_eq hR dX4_parameters_13 26 (by decide) (fun c10 => ?_) (fun c10 => ?_)
  · rw [if_pos c10] at ho
    refine us_aload_n hR dX4_parameters_26 rfl ?_
    refine us_callV hR dX4_parameters_27 (y := 5007) (by decide +kernel) (by decide) (J := i5007) rfl rfl rfl rfl (ev_k2 hE) rfl (Nat.le_of_ble_eq_true rfl) (Nat.zero_le _) (Nat.zero_le _) ?_
    refine sp_5007 hE hL hP8  (fun I11 s11 hs11 hP11 hF11 => ?_)
    rw [← hs11, bS_eq] at ho
    have hF11 := hF8.tr hF11
    refine us_aload_n hR dX4_parameters_30 rfl ?_
    refine us_callV hR dX4_parameters_31 (y := 5003) (by decide +kernel) (by decide) (J := i5003) rfl rfl rfl rfl (ev_k2 hE) rfl (Nat.le_of_ble_eq_true rfl) (Nat.zero_le _) (Nat.zero_le _) ?_
    refine sp_5003 hE hL hP11  ?_
    refine us_bipushC hR dX4_parameters_34 (c := 29) (by decide) ?_
    refine us_icmp_eq hR dX4_parameters_36 81 (by decide) (fun c13 => ?_) (fun c13 => ?_)
    · rw [if_pos c13] at ho
      exact h5015_J81  _ s11 I11 _ _ hP11 hF11 ho
    · rw [if_neg c13] at ho
      refine us_aload_n hR dX4_parameters_39 rfl ?_
      refine us_callV hR dX4_parameters_40 (y := 5016) (by decide +kernel) (by decide) (J := i5016) rfl rfl rfl rfl (ev_k2 hE) rfl (Nat.le_of_ble_eq_true rfl) (Nat.zero_le _) (Nat.zero_le _) ?_
      refine sp_5016 hE hL hP11  (fun I14 s14 hs14 hP14 hF14 => ?_)
      rw [← hs14, bS_eq] at ho
      have hF14 := hF11.tr hF14
      refine us_iconstC hR dX4_parameters_43 (c := 0) (by decide) ?_
      refine us_istore_n hR dX4_parameters_44 (Nat.le_of_ble_eq_true rfl) ?_
      exact h5015_L45 _ 0  s14 I14 _ _ hP14 hF14 ho
  · rw [if_neg c10] at ho
    refine us_aload_n hR dX4_parameters_16 rfl ?_
    refine us_iconstC hR dX4_parameters_17 (c := 3) (by decide) ?_
    refine us_aload_n hR dX4_parameters_18 rfl ?_
    refine us_getIx hR dX4_parameters_19 fR_5_46 (ev_k2 hE) rfl (Rep_v hP8 2 (by decide)) ?_
    refine us_callV hR dX4_parameters_22 (y := 5005) (by decide +kernel) (by decide) (J := i5005) rfl rfl rfl rfl (ev_k2 hE) rfl (Nat.le_of_ble_eq_true rfl) (Nat.zero_le _) (Nat.zero_le _) ?_
    refine sp_5005 hE hL hP8  (fun I15 s15 hs15 hP15 hF15 => ?_)
    rw [← hs15, bS_eq] at ho
    have hF15 := hF8.tr hF15
    refine us_vret hR dX4_parameters_25 rfl ?_
    cases ho
    exact h2 _ hP15 hF15
def f_5023_L2  : Nat → Int32 → Sx → Option Sx
  | 0, _, _ => none
  | n + 1, l1, s =>
    if (nI (s.1 15).length) ≤ l1 then
      some s
    else
      if (s.2 0) = 0 then
        if (f_4012 (xg (s.1 1) (xg (s.1 15) l1)) s) = (-1) then
          bS (f_5005 7 (xg (s.1 15) l1) s) fun s15 =>
          f_5023_L2 n (l1 + 1) s15
        else
          if (f_4013 (f_4012 (xg (s.1 1) (xg (s.1 15) l1)) s) s) = (xg (s.1 16) l1) then
            bS (sB s 1 (xset (s.1 1) (xg (s.1 15) l1) (f_4012 (xg (s.1 1) (xg (s.1 15) l1)) s))) fun s11 =>
            bS (f_4009 (xg (s11.1 17) l1) (f_4012 (xg (s.1 1) (xg (s.1 15) l1)) s) s11) fun s13 =>
            f_5023_L2 n (l1 + 1) s13
          else
            bS (f_5005 8 (xg (s.1 15) l1) s) fun s14 =>
            f_5023_L2 n (l1 + 1) s14
      else
        some s
def f_5023  (s : Sx) : Option Sx :=
  f_5023_L2 400 0 s
theorem sp_5023 {d : Nat} {G : ab_G} {ad : Nat → Nat} {I : Nat → Nat → Int32} {s : Sx} {P : ab_Pq} {X : ab_Xq} (hE : EV G ad) (hL : LR G ad) (hP : Rep I ad s)   {o : Sx} (ho : f_5023 s = some o) (h : ∀ I1, Rep I1 ad o → FrE ad I I1 → P (gW G I1) none) : ab_Gam (d + 3) 5023 [.ref (ad 2)] (gW G I) P X := by
  have h2 := h
  have hF : FrE ad I I := FrE_rfl
  unfold f_5023 at ho
  refine ab_enter (I := i5023) rfl (Nat.le_of_ble_eq_true rfl) (fun R hR => ?_)
  have h5023_L2 : ∀ (n : Nat) (l1 : Int32) (w2 : Option Value) (w3 : Option Value) (s : Sx) (Ia : Nat → Nat → Int32) (bc bs : Nat) (hPa : Rep Ia ad s) (hFa : FrE ad I Ia) (ho : f_5023_L2 n l1 s = some o), R 2 [some (.ref (ad 2)), some (.int l1), w2, w3] [] (gW G Ia) bc bs := by
    intro n
    induction n with
    | zero => intro l1 w2 w3 s Ia bc bs  hPa hFa ho; exact absurd ho (by intro hc; cases hc)
    | succ n2 ih2 =>
      intro l1 w2 w3 s Ia bc bs  hPa hFa ho
      rw [f_5023_L2] at ho
      refine us_iload_n hR dX4_linkCalls_2 rfl ?_
      refine us_aload_n hR dX4_linkCalls_3 rfl ?_
      refine us_getR hR dX4_linkCalls_4 fR_5_23 (ev_k2 hE) rfl (ev_r_2_8 hE) ?_
      refine us_callV hR dX4_linkCalls_7 (y := 6001) (by decide +kernel) (by decide) (J := i6001) rfl rfl rfl rfl (ev_rk hE (by decide)) rfl (Nat.le_of_ble_eq_true rfl) (Nat.zero_le _) (Nat.zero_le _) ?_
      refine cR_size hE hPa 15 (by decide) ?_
      refine us_icmp_ge hR dX4_linkCalls_10 129 (by decide) (fun c2 => ?_) (fun c2 => ?_)
      · rw [if_pos c2] at ho
        refine us_vret hR dX4_linkCalls_129 rfl ?_
        cases ho
        exact h2 _ hPa hFa
      · rw [if_neg c2] at ho
        refine us_aload_n hR dX4_linkCalls_13 rfl ?_
        refine us_getR hR dX4_linkCalls_14 fR_5_32 (ev_k2 hE) rfl hL.1 ?_
        refine us_getIx hR dX4_linkCalls_17 fR_5_87 (ev_k0 hE) rfl (Rep_v hPa 0 (by decide)) ?_
        refine us_if_ne hR dX4_linkCalls_20 129 (by decide) (fun c3 => ?_) (fun c3 => ?_)
        · rw [if_neg c3] at ho
          refine us_vret hR dX4_linkCalls_129 rfl ?_
          cases ho
          exact h2 _ hPa hFa
        · rw [if_pos c3] at ho
          refine us_aload_n hR dX4_linkCalls_23 rfl ?_
          refine us_getR hR dX4_linkCalls_24 fR_5_23 (ev_k2 hE) rfl (ev_r_2_8 hE) ?_
          refine us_iload_n hR dX4_linkCalls_27 rfl ?_
          refine us_callV hR dX4_linkCalls_28 (y := 6002) (by decide +kernel) (by decide) (J := i6002) rfl rfl rfl rfl (ev_rk hE (by decide)) rfl (Nat.le_of_ble_eq_true rfl) (Nat.zero_le _) (Nat.zero_le _) ?_
          refine cR_get hE hPa 15 (by decide) ?_
          refine us_istore_n hR dX4_linkCalls_31 (Nat.le_of_ble_eq_true rfl) ?_
          refine us_aload_n hR dX4_linkCalls_32 rfl ?_
          refine us_getR hR dX4_linkCalls_33 fR_5_32 (ev_k2 hE) rfl hL.1 ?_
          refine us_aload_n hR dX4_linkCalls_36 rfl ?_
          refine us_getR hR dX4_linkCalls_37 fR_5_42 (ev_k2 hE) rfl hL.2 ?_
          refine us_getR hR dX4_linkCalls_40 fR_5_163 (ev_k1 hE) rfl (ev_r_1_1 hE) ?_
          refine us_iload_n hR dX4_linkCalls_43 rfl ?_
          refine us_callV hR dX4_linkCalls_44 (y := 6002) (by decide +kernel) (by decide) (J := i6002) rfl rfl rfl rfl (ev_rk hE (by decide)) rfl (Nat.le_of_ble_eq_true rfl) (Nat.zero_le _) (Nat.zero_le _) ?_
          refine cR_get hE hPa 1 (by decide) ?_
          refine us_callV hR dX4_linkCalls_47 (y := 4012) (by decide +kernel) (by decide) (J := i4012) rfl rfl rfl rfl (ev_k0 hE) rfl (Nat.le_of_ble_eq_true rfl) (Nat.zero_le _) (Nat.zero_le _) ?_
          refine sp_4012 hE hPa  ?_
          refine us_istore_n hR dX4_linkCalls_50 (Nat.le_of_ble_eq_true rfl) ?_
          refine us_iload_n hR dX4_linkCalls_51 rfl ?_
          refine us_iconstC hR dX4_linkCalls_52 (c := (-1)) (by decide) ?_
          refine us_icmp_ne hR dX4_linkCalls_53 66 (by decide) (fun c7 => ?_) (fun c7 => ?_)
          · rw [if_neg c7] at ho
            refine us_aload_n hR dX4_linkCalls_66 rfl ?_
            refine us_getR hR dX4_linkCalls_67 fR_5_32 (ev_k2 hE) rfl hL.1 ?_
            refine us_iload_n hR dX4_linkCalls_70 rfl ?_
            refine us_callV hR dX4_linkCalls_71 (y := 4013) (by decide +kernel) (by decide) (J := i4013) rfl rfl rfl rfl (ev_k0 hE) rfl (Nat.le_of_ble_eq_true rfl) (Nat.zero_le _) (Nat.zero_le _) ?_
            refine sp_4013 hE hPa  ?_
            refine us_aload_n hR dX4_linkCalls_74 rfl ?_
            refine us_getR hR dX4_linkCalls_75 fR_5_26 (ev_k2 hE) rfl (ev_r_2_9 hE) ?_
            refine us_iload_n hR dX4_linkCalls_78 rfl ?_
            refine us_callV hR dX4_linkCalls_79 (y := 6002) (by decide +kernel) (by decide) (J := i6002) rfl rfl rfl rfl (ev_rk hE (by decide)) rfl (Nat.le_of_ble_eq_true rfl) (Nat.zero_le _) (Nat.zero_le _) ?_
            refine cR_get hE hPa 16 (by decide) ?_
            refine us_icmp_eq hR dX4_linkCalls_82 95 (by decide) (fun c10 => ?_) (fun c10 => ?_)
            · rw [if_pos c10] at ho
              refine us_aload_n hR dX4_linkCalls_95 rfl ?_
              refine us_getR hR dX4_linkCalls_96 fR_5_42 (ev_k2 hE) rfl hL.2 ?_
              refine us_getR hR dX4_linkCalls_99 fR_5_163 (ev_k1 hE) rfl (ev_r_1_1 hE) ?_
              refine us_iload_n hR dX4_linkCalls_102 rfl ?_
              refine us_iload_n hR dX4_linkCalls_103 rfl ?_
              refine us_callV hR dX4_linkCalls_104 (y := 6003) (by decide +kernel) (by decide) (J := i6003) rfl rfl rfl rfl (ev_rk hE (by decide)) rfl (Nat.le_of_ble_eq_true rfl) (Nat.zero_le _) (Nat.zero_le _) ?_
              refine cR_set hE hPa 1 (by decide) (fun I11 s11 hs11 hP11 hF11 => ?_)
              rw [← hs11, bS_eq] at ho
              have hF11 := hFa.tr hF11
              refine us_aload_n hR dX4_linkCalls_107 rfl ?_
              refine us_getR hR dX4_linkCalls_108 fR_5_32 (ev_k2 hE) rfl hL.1 ?_
              refine us_aload_n hR dX4_linkCalls_111 rfl ?_
              refine us_getR hR dX4_linkCalls_112 fR_5_29 (ev_k2 hE) rfl (ev_r_2_10 hE) ?_
              refine us_iload_n hR dX4_linkCalls_115 rfl ?_
              refine us_callV hR dX4_linkCalls_116 (y := 6002) (by decide +kernel) (by decide) (J := i6002) rfl rfl rfl rfl (ev_rk hE (by decide)) rfl (Nat.le_of_ble_eq_true rfl) (Nat.zero_le _) (Nat.zero_le _) ?_
              refine cR_get hE hP11 17 (by decide) ?_
              refine us_iload_n hR dX4_linkCalls_119 rfl ?_
              refine us_callV hR dX4_linkCalls_120 (y := 4009) (by decide +kernel) (by decide) (J := i4009) rfl rfl rfl rfl (ev_k0 hE) rfl (Nat.le_of_ble_eq_true rfl) (Nat.zero_le _) (Nat.zero_le _) ?_
              refine sp_4009 hE hP11  (fun I13 s13 hs13 hP13 hF13 => ?_)
              rw [← hs13, bS_eq] at ho
              have hF13 := hF11.tr hF13
              refine us_iincC hR dX4_linkCalls_123 rfl (Nat.le_of_ble_eq_true rfl) (c := 1) (by decide) ?_
              refine us_goto hR dX4_linkCalls_126 2 (by decide) ?_
              exact ih2 (l1 + 1) _ _ s13 I13 _ _ hP13 hF13 ho
            · rw [if_neg c10] at ho
              refine us_aload_n hR dX4_linkCalls_85 rfl ?_
              refine us_bipushC hR dX4_linkCalls_86 (c := 8) (by decide) ?_
              refine us_iload_n hR dX4_linkCalls_88 rfl ?_
              refine us_callV hR dX4_linkCalls_89 (y := 5005) (by decide +kernel) (by decide) (J := i5005) rfl rfl rfl rfl (ev_k2 hE) rfl (Nat.le_of_ble_eq_true rfl) (Nat.zero_le _) (Nat.zero_le _) ?_
              refine sp_5005 hE hL hPa  (fun I14 s14 hs14 hP14 hF14 => ?_)
              rw [← hs14, bS_eq] at ho
              have hF14 := hFa.tr hF14
              refine us_goto hR dX4_linkCalls_92 123 (by decide) ?_
              refine us_iincC hR dX4_linkCalls_123 rfl (Nat.le_of_ble_eq_true rfl) (c := 1) (by decide) ?_
              refine us_goto hR dX4_linkCalls_126 2 (by decide) ?_
              exact ih2 (l1 + 1) _ _ s14 I14 _ _ hP14 hF14 ho
          · rw [if_pos c7] at ho
            refine us_aload_n hR dX4_linkCalls_56 rfl ?_
            refine us_bipushC hR dX4_linkCalls_57 (c := 7) (by decide) ?_
            refine us_iload_n hR dX4_linkCalls_59 rfl ?_
            refine us_callV hR dX4_linkCalls_60 (y := 5005) (by decide +kernel) (by decide) (J := i5005) rfl rfl rfl rfl (ev_k2 hE) rfl (Nat.le_of_ble_eq_true rfl) (Nat.zero_le _) (Nat.zero_le _) ?_
            refine sp_5005 hE hL hPa  (fun I15 s15 hs15 hP15 hF15 => ?_)
            rw [← hs15, bS_eq] at ho
            have hF15 := hFa.tr hF15
            refine us_goto hR dX4_linkCalls_63 123 (by decide) ?_
            refine us_iincC hR dX4_linkCalls_123 rfl (Nat.le_of_ble_eq_true rfl) (c := 1) (by decide) ?_
            refine us_goto hR dX4_linkCalls_126 2 (by decide) ?_
            exact ih2 (l1 + 1) _ _ s15 I15 _ _ hP15 hF15 ho
  refine us_iconstC hR dX4_linkCalls_0 (c := 0) (by decide) ?_
  refine us_istore_n hR dX4_linkCalls_1 (Nat.le_of_ble_eq_true rfl) ?_
  exact h5023_L2 _ 0 _ _ s I _ _ hP hF ho
def f_5008_J234 (rec : Nat → Int32 → Sx → Option Sx)  (l1 : Int32) (l2 : Int32) (s : Sx) : Option Sx :=
  bS (f_4003 l1 (s.2 2) s) fun s1 =>
  some s1
def f_5008_J225 (rec : Nat → Int32 → Sx → Option Sx)  (l1 : Int32) (l2 : Int32) (s : Sx) : Option Sx :=
  bS (f_5005 3 (s.2 2) s) fun s2 =>
  f_5008_J234 rec l1 l2 s2
def f_5008_J39 (rec : Nat → Int32 → Sx → Option Sx)  (l1 : Int32) (l2 : Int32) (s : Sx) : Option Sx :=
  if l2 = 4 then
    bOv (rec 5009 0 s) fun s4 =>
    f_5008_J234 rec l1 l2 s4
  else if l2 = 5 then
    bOv (rec 5011 0 s) fun s5 =>
    f_5008_J234 rec l1 l2 s5
  else if l2 = 6 then
    f_5008_J225 rec l1 l2 s
  else if l2 = 7 then
    bOv (rec 5012 0 s) fun s6 =>
    f_5008_J234 rec l1 l2 s6
  else if l2 = 8 then
    bS (sV s 2 ((s.2 2) + 1)) fun s7 =>
    bOv (rec 5018 1 s7) fun s8 =>
    bT (f_4005 6 0 s8) fun s9 r9 =>
    bS (f_5006 33 s9) fun s10 =>
    f_5008_J234 rec l1 l2 s10
  else if l2 = 9 then
    f_5008_J225 rec l1 l2 s
  else if l2 = 10 then
    bOv (rec 5014 0 s) fun s11 =>
    f_5008_J234 rec l1 l2 s11
  else if l2 = 11 then
    bOv (rec 5013 0 s) fun s12 =>
    f_5008_J234 rec l1 l2 s12
  else if l2 = 12 then
    f_5008_J225 rec l1 l2 s
  else if l2 = 13 then
    f_5008_J225 rec l1 l2 s
  else if l2 = 14 then
    f_5008_J225 rec l1 l2 s
  else if l2 = 15 then
    f_5008_J225 rec l1 l2 s
  else if l2 = 16 then
    f_5008_J225 rec l1 l2 s
  else if l2 = 17 then
    f_5008_J225 rec l1 l2 s
  else if l2 = 18 then
    f_5008_J225 rec l1 l2 s
  else if l2 = 19 then
    f_5008_J225 rec l1 l2 s
  else if l2 = 20 then
    f_5008_J225 rec l1 l2 s
  else if l2 = 21 then
    f_5008_J225 rec l1 l2 s
  else if l2 = 22 then
    f_5008_J225 rec l1 l2 s
  else if l2 = 23 then
    f_5008_J225 rec l1 l2 s
  else if l2 = 24 then
    f_5008_J225 rec l1 l2 s
  else if l2 = 25 then
    f_5008_J225 rec l1 l2 s
  else if l2 = 26 then
    bOv (rec 5010 0 s) fun s13 =>
    f_5008_J234 rec l1 l2 s13
  else
    f_5008_J225 rec l1 l2 s
def f_5008 (rec : Nat → Int32 → Sx → Option Sx)  (s : Sx) : Option Sx :=
  bT (f_4002 (s.2 2) s) fun s14 r14 =>
  if (f_5003 s14) = 7 then
    f_5008_J39 rec r14 (f_5003 s14) s14
  else
    if (f_5003 s14) = 10 then
      f_5008_J39 rec r14 (f_5003 s14) s14
    else
      bT (f_4005 0 0 s14) fun s18 r18 =>
      f_5008_J39 rec r14 (f_5003 s14) s18
theorem sp_5008 {d : Nat} {G : ab_G} {ad : Nat → Nat} {I : Nat → Nat → Int32} {s : Sx} {P : ab_Pq} {X : ab_Xq} (hE : EV G ad) (hL : LR G ad) (hP : Rep I ad s) {rec : Nat → Int32 → Sx → Option Sx} (hrec0 : ∀ z, z ∈ [5008, 5009, 5010, 5011, 5012, 5013, 5014, 5019, 5020, 5021] → ∀ {s o : Sx} {I : Nat → Nat → Int32} {P : ab_Pq} {X : ab_Xq}, Rep I ad s → rec z 0 s = some o → (∀ I1, Rep I1 ad o → FrE ad I I1 → P (gW G I1) none) → ab_Gam d z [.ref (ad 2)] (gW G I) P X) (hrec1 : ∀ z, z ∈ [5017, 5018] → ∀ {x : Int32} {s o : Sx} {I : Nat → Nat → Int32} {P : ab_Pq} {X : ab_Xq}, Rep I ad s → rec z x s = some o → (∀ I1, Rep I1 ad o → FrE ad I I1 → P (gW G I1) none) → ab_Gam d z [.ref (ad 2), .int x] (gW G I) P X) (hd : 12 ≤ d)   {o : Sx} (ho : f_5008 rec s = some o) (h : ∀ I1, Rep I1 ad o → FrE ad I I1 → P (gW G I1) none) : ab_Gam (d + 1) 5008 [.ref (ad 2)] (gW G I) P X := by
  have h2 := h
  obtain ⟨e, rfl⟩ : ∃ e, d = e + 12 := ⟨d - 12, by omega⟩
  have hF : FrE ad I I := FrE_rfl
  unfold f_5008 at ho
  refine ab_enter (I := i5008) rfl (Nat.le_of_ble_eq_true rfl) (fun R hR => ?_)
  have h5008_J234 : ∀ (l1 : Int32) (l2 : Int32)  (s : Sx) (Ia : Nat → Nat → Int32) (bc bs : Nat) (hPa : Rep Ia ad s) (hFa : FrE ad I Ia) (ho : f_5008_J234 rec l1 l2 s = some o), R 234 [some (.ref (ad 2)), some (.int l1), some (.int l2)] [] (gW G Ia) bc bs := by
    intro l1 l2  s Ia bc bs  hPa hFa ho
    unfold f_5008_J234 at ho
    refine us_aload_n hR dX4_statement_234 rfl ?_
    refine us_getR hR dX4_statement_235 fR_5_32 (ev_k2 hE) rfl hL.1 ?_
    refine us_iload_n hR dX4_statement_238 rfl ?_
    refine us_aload_n hR dX4_statement_239 rfl ?_
    refine us_getIx hR dX4_statement_240 fR_5_46 (ev_k2 hE) rfl (Rep_v hPa 2 (by decide)) ?_
    refine us_callV hR dX4_statement_243 (y := 4003) (by decide +kernel) (by decide) (J := i4003) rfl rfl rfl rfl (ev_k0 hE) rfl (Nat.le_of_ble_eq_true rfl) (Nat.zero_le _) (Nat.zero_le _) ?_
    refine sp_4003 hE hPa  (fun I1 s1 hs1 hP1 hF1 => ?_)
    rw [← hs1, bS_eq] at ho
    have hF1 := hFa.tr hF1
    refine us_vret hR dX4_statement_246 rfl ?_
    cases ho
    exact h2 _ hP1 hF1
  have h5008_J225 : ∀ (l1 : Int32) (l2 : Int32)  (s : Sx) (Ia : Nat → Nat → Int32) (bc bs : Nat) (hPa : Rep Ia ad s) (hFa : FrE ad I Ia) (ho : f_5008_J225 rec l1 l2 s = some o), R 225 [some (.ref (ad 2)), some (.int l1), some (.int l2)] [] (gW G Ia) bc bs := by
    intro l1 l2  s Ia bc bs  hPa hFa ho
    unfold f_5008_J225 at ho
    refine us_aload_n hR dX4_statement_225 rfl ?_
    refine us_iconstC hR dX4_statement_226 (c := 3) (by decide) ?_
    refine us_aload_n hR dX4_statement_227 rfl ?_
    refine us_getIx hR dX4_statement_228 fR_5_46 (ev_k2 hE) rfl (Rep_v hPa 2 (by decide)) ?_
    refine us_callV hR dX4_statement_231 (y := 5005) (by decide +kernel) (by decide) (J := i5005) rfl rfl rfl rfl (ev_k2 hE) rfl (Nat.le_of_ble_eq_true rfl) (Nat.zero_le _) (Nat.zero_le _) ?_
    refine sp_5005 hE hL hPa  (fun I2 s2 hs2 hP2 hF2 => ?_)
    rw [← hs2, bS_eq] at ho
    have hF2 := hFa.tr hF2
    exact h5008_J234 l1 l2  s2 I2 _ _ hP2 hF2 ho
  have h5008_J39 : ∀ (l1 : Int32) (l2 : Int32)  (s : Sx) (Ia : Nat → Nat → Int32) (bc bs : Nat) (hPa : Rep Ia ad s) (hFa : FrE ad I Ia) (ho : f_5008_J39 rec l1 l2 s = some o), R 39 [some (.ref (ad 2)), some (.int l1), some (.int l2)] [] (gW G Ia) bc bs := by
    intro l1 l2  s Ia bc bs  hPa hFa ho
    unfold f_5008_J39 at ho
    refine us_iload_n hR dX4_statement_39 rfl ?_
    refine us_tsw hR dX4_statement_40 (fun c3 => ⟨by decide, ?_⟩) (by decide) ⟨fun c3 => ⟨by decide, ?_⟩, fun c3 => ⟨by decide, ?_⟩, fun c3 => ⟨by decide, ?_⟩, fun c3 => ⟨by decide, ?_⟩, fun c3 => ⟨by decide, ?_⟩, fun c3 => ⟨by decide, ?_⟩, fun c3 => ⟨by decide, ?_⟩, fun c3 => ⟨by decide, ?_⟩, fun c3 => ⟨by decide, ?_⟩, fun c3 => ⟨by decide, ?_⟩, fun c3 => ⟨by decide, ?_⟩, fun c3 => ⟨by decide, ?_⟩, fun c3 => ⟨by decide, ?_⟩, fun c3 => ⟨by decide, ?_⟩, fun c3 => ⟨by decide, ?_⟩, fun c3 => ⟨by decide, ?_⟩, fun c3 => ⟨by decide, ?_⟩, fun c3 => ⟨by decide, ?_⟩, fun c3 => ⟨by decide, ?_⟩, fun c3 => ⟨by decide, ?_⟩, fun c3 => ⟨by decide, ?_⟩, fun c3 => ⟨by decide, ?_⟩, fun c3 => ⟨by decide, ?_⟩, trivial⟩
    · rw [if_neg (i_sw_d (v := 4) c3 (by decide)), if_neg (i_sw_d (v := 5) c3 (by decide)), if_neg (i_sw_d (v := 6) c3 (by decide)), if_neg (i_sw_d (v := 7) c3 (by decide)), if_neg (i_sw_d (v := 8) c3 (by decide)), if_neg (i_sw_d (v := 9) c3 (by decide)), if_neg (i_sw_d (v := 10) c3 (by decide)), if_neg (i_sw_d (v := 11) c3 (by decide)), if_neg (i_sw_d (v := 12) c3 (by decide)), if_neg (i_sw_d (v := 13) c3 (by decide)), if_neg (i_sw_d (v := 14) c3 (by decide)), if_neg (i_sw_d (v := 15) c3 (by decide)), if_neg (i_sw_d (v := 16) c3 (by decide)), if_neg (i_sw_d (v := 17) c3 (by decide)), if_neg (i_sw_d (v := 18) c3 (by decide)), if_neg (i_sw_d (v := 19) c3 (by decide)), if_neg (i_sw_d (v := 20) c3 (by decide)), if_neg (i_sw_d (v := 21) c3 (by decide)), if_neg (i_sw_d (v := 22) c3 (by decide)), if_neg (i_sw_d (v := 23) c3 (by decide)), if_neg (i_sw_d (v := 24) c3 (by decide)), if_neg (i_sw_d (v := 25) c3 (by decide)), if_neg (i_sw_d (v := 26) c3 (by decide))] at ho
      exact h5008_J225 l1 l2  s Ia _ _ hPa hFa ho
    · rw [if_pos (i_sw (v := 4) c3)] at ho
      refine us_aload_n hR dX4_statement_148 rfl ?_
      refine us_callV hR dX4_statement_149 (y := 5009) (by decide +kernel) (by decide) (J := i5009) rfl rfl rfl rfl (ev_k2 hE) rfl (Nat.le_of_ble_eq_true rfl) (Nat.zero_le _) (Nat.zero_le _) ?_
      obtain ⟨s4, hs4⟩ := bOv_ex ho
      replace ho := bOv_go ho hs4
      refine hrec0 5009 (by decide) hPa hs4 (fun I4 hP4 hF4 => ?_)
      have hF4 := hFa.tr hF4
      refine us_goto hR dX4_statement_152 234 (by decide) ?_
      exact h5008_J234 l1 l2  s4 I4 _ _ hP4 hF4 ho
    · rw [if_neg (i_sw_x (v := 5) (w := 4) c3 (by decide)), if_pos (i_sw (v := 5) c3)] at ho
      refine us_aload_n hR dX4_statement_197 rfl ?_
      refine us_callV hR dX4_statement_198 (y := 5011) (by decide +kernel) (by decide) (J := i5011) rfl rfl rfl rfl (ev_k2 hE) rfl (Nat.le_of_ble_eq_true rfl) (Nat.zero_le _) (Nat.zero_le _) ?_
      obtain ⟨s5, hs5⟩ := bOv_ex ho
      replace ho := bOv_go ho hs5
      refine hrec0 5011 (by decide) hPa hs5 (fun I5 hP5 hF5 => ?_)
      have hF5 := hFa.tr hF5
      refine us_goto hR dX4_statement_201 234 (by decide) ?_
      exact h5008_J234 l1 l2  s5 I5 _ _ hP5 hF5 ho
    · rw [if_neg (i_sw_x (v := 6) (w := 4) c3 (by decide)), if_neg (i_sw_x (v := 6) (w := 5) c3 (by decide)), if_pos (i_sw (v := 6) c3)] at ho
      exact h5008_J225 l1 l2  s Ia _ _ hPa hFa ho
    · rw [if_neg (i_sw_x (v := 7) (w := 4) c3 (by decide)), if_neg (i_sw_x (v := 7) (w := 5) c3 (by decide)), if_neg (i_sw_x (v := 7) (w := 6) c3 (by decide)), if_pos (i_sw (v := 7) c3)] at ho
      refine us_aload_n hR dX4_statement_204 rfl ?_
      refine us_callV hR dX4_statement_205 (y := 5012) (by decide +kernel) (by decide) (J := i5012) rfl rfl rfl rfl (ev_k2 hE) rfl (Nat.le_of_ble_eq_true rfl) (Nat.zero_le _) (Nat.zero_le _) ?_
      obtain ⟨s6, hs6⟩ := bOv_ex ho
      replace ho := bOv_go ho hs6
      refine hrec0 5012 (by decide) hPa hs6 (fun I6 hP6 hF6 => ?_)
      have hF6 := hFa.tr hF6
      refine us_goto hR dX4_statement_208 234 (by decide) ?_
      exact h5008_J234 l1 l2  s6 I6 _ _ hP6 hF6 ho
    · rw [if_neg (i_sw_x (v := 8) (w := 4) c3 (by decide)), if_neg (i_sw_x (v := 8) (w := 5) c3 (by decide)), if_neg (i_sw_x (v := 8) (w := 6) c3 (by decide)), if_neg (i_sw_x (v := 8) (w := 7) c3 (by decide)), if_pos (i_sw (v := 8) c3)] at ho
      refine us_aload_n hR dX4_statement_162 rfl ?_
      refine us_dup hR dX4_statement_163 rfl ?_
      refine us_getIx hR dX4_statement_164 fR_5_46 (ev_k2 hE) rfl (Rep_v hPa 2 (by decide)) ?_
      refine us_iconstC hR dX4_statement_167 (c := 1) (by decide) ?_
      refine us_iadd hR dX4_statement_168 ?_
      refine us_putIx hE hPa 2 (by decide) hR dX4_statement_169 fR_5_46 (Or.inl rfl) (ev_k2 hE) rfl rfl (fun I7 s7 hs7 hP7 hF7 => ?_)
      rw [← hs7, bS_eq] at ho
      have hF7 := hFa.tr hF7
      refine us_aload_n hR dX4_statement_172 rfl ?_
      refine us_iconstC hR dX4_statement_173 (c := 1) (by decide) ?_
      refine us_callV hR dX4_statement_174 (y := 5018) (by decide +kernel) (by decide) (J := i5018) rfl rfl rfl rfl (ev_k2 hE) rfl (Nat.le_of_ble_eq_true rfl) (Nat.zero_le _) (Nat.zero_le _) ?_
      obtain ⟨s8, hs8⟩ := bOv_ex ho
      replace ho := bOv_go ho hs8
      refine hrec1 5018 (by decide) hP7 hs8 (fun I8 hP8 hF8 => ?_)
      have hF8 := hF7.tr hF8
      refine us_aload_n hR dX4_statement_177 rfl ?_
      refine us_getR hR dX4_statement_178 fR_5_32 (ev_k2 hE) rfl hL.1 ?_
      refine us_bipushC hR dX4_statement_181 (c := 6) (by decide) ?_
      refine us_iconstC hR dX4_statement_183 (c := 0) (by decide) ?_
      refine us_callV hR dX4_statement_184 (y := 4005) (by decide +kernel) (by decide) (J := i4005) rfl rfl rfl rfl (ev_k0 hE) rfl (Nat.le_of_ble_eq_true rfl) (Nat.zero_le _) (Nat.zero_le _) ?_
      refine sp_4005 hE hP8  (fun I9 q9 hs9 hP9 hF9 => ?_)
      rw [← hs9] at ho
      obtain ⟨s9, r9⟩ := q9
      rw [bT_eq] at ho
      have hF9 := hF8.tr hF9
      refine us_pop hR dX4_statement_187 rfl ?_
      refine us_aload_n hR dX4_statement_188 rfl ?_
      refine us_bipushC hR dX4_statement_189 (c := 33) (by decide) ?_
      refine us_callV hR dX4_statement_191 (y := 5006) (by decide +kernel) (by decide) (J := i5006) rfl rfl rfl rfl (ev_k2 hE) rfl (Nat.le_of_ble_eq_true rfl) (Nat.zero_le _) (Nat.zero_le _) ?_
      refine sp_5006 hE hL hP9  (fun I10 s10 hs10 hP10 hF10 => ?_)
      rw [← hs10, bS_eq] at ho
      have hF10 := hF9.tr hF10
      refine us_goto hR dX4_statement_194 234 (by decide) ?_
      exact h5008_J234 l1 l2  s10 I10 _ _ hP10 hF10 ho
    · rw [if_neg (i_sw_x (v := 9) (w := 4) c3 (by decide)), if_neg (i_sw_x (v := 9) (w := 5) c3 (by decide)), if_neg (i_sw_x (v := 9) (w := 6) c3 (by decide)), if_neg (i_sw_x (v := 9) (w := 7) c3 (by decide)), if_neg (i_sw_x (v := 9) (w := 8) c3 (by decide)), if_pos (i_sw (v := 9) c3)] at ho
      exact h5008_J225 l1 l2  s Ia _ _ hPa hFa ho
    · rw [if_neg (i_sw_x (v := 10) (w := 4) c3 (by decide)), if_neg (i_sw_x (v := 10) (w := 5) c3 (by decide)), if_neg (i_sw_x (v := 10) (w := 6) c3 (by decide)), if_neg (i_sw_x (v := 10) (w := 7) c3 (by decide)), if_neg (i_sw_x (v := 10) (w := 8) c3 (by decide)), if_neg (i_sw_x (v := 10) (w := 9) c3 (by decide)), if_pos (i_sw (v := 10) c3)] at ho
      refine us_aload_n hR dX4_statement_211 rfl ?_
      refine us_callV hR dX4_statement_212 (y := 5014) (by decide +kernel) (by decide) (J := i5014) rfl rfl rfl rfl (ev_k2 hE) rfl (Nat.le_of_ble_eq_true rfl) (Nat.zero_le _) (Nat.zero_le _) ?_
      obtain ⟨s11, hs11⟩ := bOv_ex ho
      replace ho := bOv_go ho hs11
      refine hrec0 5014 (by decide) hPa hs11 (fun I11 hP11 hF11 => ?_)
      have hF11 := hFa.tr hF11
      refine us_goto hR dX4_statement_215 234 (by decide) ?_
      exact h5008_J234 l1 l2  s11 I11 _ _ hP11 hF11 ho
    · rw [if_neg (i_sw_x (v := 11) (w := 4) c3 (by decide)), if_neg (i_sw_x (v := 11) (w := 5) c3 (by decide)), if_neg (i_sw_x (v := 11) (w := 6) c3 (by decide)), if_neg (i_sw_x (v := 11) (w := 7) c3 (by decide)), if_neg (i_sw_x (v := 11) (w := 8) c3 (by decide)), if_neg (i_sw_x (v := 11) (w := 9) c3 (by decide)), if_neg (i_sw_x (v := 11) (w := 10) c3 (by decide)), if_pos (i_sw (v := 11) c3)] at ho
      refine us_aload_n hR dX4_statement_218 rfl ?_
      refine us_callV hR dX4_statement_219 (y := 5013) (by decide +kernel) (by decide) (J := i5013) rfl rfl rfl rfl (ev_k2 hE) rfl (Nat.le_of_ble_eq_true rfl) (Nat.zero_le _) (Nat.zero_le _) ?_
      obtain ⟨s12, hs12⟩ := bOv_ex ho
      replace ho := bOv_go ho hs12
      refine hrec0 5013 (by decide) hPa hs12 (fun I12 hP12 hF12 => ?_)
      have hF12 := hFa.tr hF12
      refine us_goto hR dX4_statement_222 234 (by decide) ?_
      exact h5008_J234 l1 l2  s12 I12 _ _ hP12 hF12 ho
    · rw [if_neg (i_sw_x (v := 12) (w := 4) c3 (by decide)), if_neg (i_sw_x (v := 12) (w := 5) c3 (by decide)), if_neg (i_sw_x (v := 12) (w := 6) c3 (by decide)), if_neg (i_sw_x (v := 12) (w := 7) c3 (by decide)), if_neg (i_sw_x (v := 12) (w := 8) c3 (by decide)), if_neg (i_sw_x (v := 12) (w := 9) c3 (by decide)), if_neg (i_sw_x (v := 12) (w := 10) c3 (by decide)), if_neg (i_sw_x (v := 12) (w := 11) c3 (by decide)), if_pos (i_sw (v := 12) c3)] at ho
      exact h5008_J225 l1 l2  s Ia _ _ hPa hFa ho
    · rw [if_neg (i_sw_x (v := 13) (w := 4) c3 (by decide)), if_neg (i_sw_x (v := 13) (w := 5) c3 (by decide)), if_neg (i_sw_x (v := 13) (w := 6) c3 (by decide)), if_neg (i_sw_x (v := 13) (w := 7) c3 (by decide)), if_neg (i_sw_x (v := 13) (w := 8) c3 (by decide)), if_neg (i_sw_x (v := 13) (w := 9) c3 (by decide)), if_neg (i_sw_x (v := 13) (w := 10) c3 (by decide)), if_neg (i_sw_x (v := 13) (w := 11) c3 (by decide)), if_neg (i_sw_x (v := 13) (w := 12) c3 (by decide)), if_pos (i_sw (v := 13) c3)] at ho
      exact h5008_J225 l1 l2  s Ia _ _ hPa hFa ho
    · rw [if_neg (i_sw_x (v := 14) (w := 4) c3 (by decide)), if_neg (i_sw_x (v := 14) (w := 5) c3 (by decide)), if_neg (i_sw_x (v := 14) (w := 6) c3 (by decide)), if_neg (i_sw_x (v := 14) (w := 7) c3 (by decide)), if_neg (i_sw_x (v := 14) (w := 8) c3 (by decide)), if_neg (i_sw_x (v := 14) (w := 9) c3 (by decide)), if_neg (i_sw_x (v := 14) (w := 10) c3 (by decide)), if_neg (i_sw_x (v := 14) (w := 11) c3 (by decide)), if_neg (i_sw_x (v := 14) (w := 12) c3 (by decide)), if_neg (i_sw_x (v := 14) (w := 13) c3 (by decide)), if_pos (i_sw (v := 14) c3)] at ho
      exact h5008_J225 l1 l2  s Ia _ _ hPa hFa ho
    · rw [if_neg (i_sw_x (v := 15) (w := 4) c3 (by decide)), if_neg (i_sw_x (v := 15) (w := 5) c3 (by decide)), if_neg (i_sw_x (v := 15) (w := 6) c3 (by decide)), if_neg (i_sw_x (v := 15) (w := 7) c3 (by decide)), if_neg (i_sw_x (v := 15) (w := 8) c3 (by decide)), if_neg (i_sw_x (v := 15) (w := 9) c3 (by decide)), if_neg (i_sw_x (v := 15) (w := 10) c3 (by decide)), if_neg (i_sw_x (v := 15) (w := 11) c3 (by decide)), if_neg (i_sw_x (v := 15) (w := 12) c3 (by decide)), if_neg (i_sw_x (v := 15) (w := 13) c3 (by decide)), if_neg (i_sw_x (v := 15) (w := 14) c3 (by decide)), if_pos (i_sw (v := 15) c3)] at ho
      exact h5008_J225 l1 l2  s Ia _ _ hPa hFa ho
    · rw [if_neg (i_sw_x (v := 16) (w := 4) c3 (by decide)), if_neg (i_sw_x (v := 16) (w := 5) c3 (by decide)), if_neg (i_sw_x (v := 16) (w := 6) c3 (by decide)), if_neg (i_sw_x (v := 16) (w := 7) c3 (by decide)), if_neg (i_sw_x (v := 16) (w := 8) c3 (by decide)), if_neg (i_sw_x (v := 16) (w := 9) c3 (by decide)), if_neg (i_sw_x (v := 16) (w := 10) c3 (by decide)), if_neg (i_sw_x (v := 16) (w := 11) c3 (by decide)), if_neg (i_sw_x (v := 16) (w := 12) c3 (by decide)), if_neg (i_sw_x (v := 16) (w := 13) c3 (by decide)), if_neg (i_sw_x (v := 16) (w := 14) c3 (by decide)), if_neg (i_sw_x (v := 16) (w := 15) c3 (by decide)), if_pos (i_sw (v := 16) c3)] at ho
      exact h5008_J225 l1 l2  s Ia _ _ hPa hFa ho
    · rw [if_neg (i_sw_x (v := 17) (w := 4) c3 (by decide)), if_neg (i_sw_x (v := 17) (w := 5) c3 (by decide)), if_neg (i_sw_x (v := 17) (w := 6) c3 (by decide)), if_neg (i_sw_x (v := 17) (w := 7) c3 (by decide)), if_neg (i_sw_x (v := 17) (w := 8) c3 (by decide)), if_neg (i_sw_x (v := 17) (w := 9) c3 (by decide)), if_neg (i_sw_x (v := 17) (w := 10) c3 (by decide)), if_neg (i_sw_x (v := 17) (w := 11) c3 (by decide)), if_neg (i_sw_x (v := 17) (w := 12) c3 (by decide)), if_neg (i_sw_x (v := 17) (w := 13) c3 (by decide)), if_neg (i_sw_x (v := 17) (w := 14) c3 (by decide)), if_neg (i_sw_x (v := 17) (w := 15) c3 (by decide)), if_neg (i_sw_x (v := 17) (w := 16) c3 (by decide)), if_pos (i_sw (v := 17) c3)] at ho
      exact h5008_J225 l1 l2  s Ia _ _ hPa hFa ho
    · rw [if_neg (i_sw_x (v := 18) (w := 4) c3 (by decide)), if_neg (i_sw_x (v := 18) (w := 5) c3 (by decide)), if_neg (i_sw_x (v := 18) (w := 6) c3 (by decide)), if_neg (i_sw_x (v := 18) (w := 7) c3 (by decide)), if_neg (i_sw_x (v := 18) (w := 8) c3 (by decide)), if_neg (i_sw_x (v := 18) (w := 9) c3 (by decide)), if_neg (i_sw_x (v := 18) (w := 10) c3 (by decide)), if_neg (i_sw_x (v := 18) (w := 11) c3 (by decide)), if_neg (i_sw_x (v := 18) (w := 12) c3 (by decide)), if_neg (i_sw_x (v := 18) (w := 13) c3 (by decide)), if_neg (i_sw_x (v := 18) (w := 14) c3 (by decide)), if_neg (i_sw_x (v := 18) (w := 15) c3 (by decide)), if_neg (i_sw_x (v := 18) (w := 16) c3 (by decide)), if_neg (i_sw_x (v := 18) (w := 17) c3 (by decide)), if_pos (i_sw (v := 18) c3)] at ho
      exact h5008_J225 l1 l2  s Ia _ _ hPa hFa ho
    · rw [if_neg (i_sw_x (v := 19) (w := 4) c3 (by decide)), if_neg (i_sw_x (v := 19) (w := 5) c3 (by decide)), if_neg (i_sw_x (v := 19) (w := 6) c3 (by decide)), if_neg (i_sw_x (v := 19) (w := 7) c3 (by decide)), if_neg (i_sw_x (v := 19) (w := 8) c3 (by decide)), if_neg (i_sw_x (v := 19) (w := 9) c3 (by decide)), if_neg (i_sw_x (v := 19) (w := 10) c3 (by decide)), if_neg (i_sw_x (v := 19) (w := 11) c3 (by decide)), if_neg (i_sw_x (v := 19) (w := 12) c3 (by decide)), if_neg (i_sw_x (v := 19) (w := 13) c3 (by decide)), if_neg (i_sw_x (v := 19) (w := 14) c3 (by decide)), if_neg (i_sw_x (v := 19) (w := 15) c3 (by decide)), if_neg (i_sw_x (v := 19) (w := 16) c3 (by decide)), if_neg (i_sw_x (v := 19) (w := 17) c3 (by decide)), if_neg (i_sw_x (v := 19) (w := 18) c3 (by decide)), if_pos (i_sw (v := 19) c3)] at ho
      exact h5008_J225 l1 l2  s Ia _ _ hPa hFa ho
    · rw [if_neg (i_sw_x (v := 20) (w := 4) c3 (by decide)), if_neg (i_sw_x (v := 20) (w := 5) c3 (by decide)), if_neg (i_sw_x (v := 20) (w := 6) c3 (by decide)), if_neg (i_sw_x (v := 20) (w := 7) c3 (by decide)), if_neg (i_sw_x (v := 20) (w := 8) c3 (by decide)), if_neg (i_sw_x (v := 20) (w := 9) c3 (by decide)), if_neg (i_sw_x (v := 20) (w := 10) c3 (by decide)), if_neg (i_sw_x (v := 20) (w := 11) c3 (by decide)), if_neg (i_sw_x (v := 20) (w := 12) c3 (by decide)), if_neg (i_sw_x (v := 20) (w := 13) c3 (by decide)), if_neg (i_sw_x (v := 20) (w := 14) c3 (by decide)), if_neg (i_sw_x (v := 20) (w := 15) c3 (by decide)), if_neg (i_sw_x (v := 20) (w := 16) c3 (by decide)), if_neg (i_sw_x (v := 20) (w := 17) c3 (by decide)), if_neg (i_sw_x (v := 20) (w := 18) c3 (by decide)), if_neg (i_sw_x (v := 20) (w := 19) c3 (by decide)), if_pos (i_sw (v := 20) c3)] at ho
      exact h5008_J225 l1 l2  s Ia _ _ hPa hFa ho
    · rw [if_neg (i_sw_x (v := 21) (w := 4) c3 (by decide)), if_neg (i_sw_x (v := 21) (w := 5) c3 (by decide)), if_neg (i_sw_x (v := 21) (w := 6) c3 (by decide)), if_neg (i_sw_x (v := 21) (w := 7) c3 (by decide)), if_neg (i_sw_x (v := 21) (w := 8) c3 (by decide)), if_neg (i_sw_x (v := 21) (w := 9) c3 (by decide)), if_neg (i_sw_x (v := 21) (w := 10) c3 (by decide)), if_neg (i_sw_x (v := 21) (w := 11) c3 (by decide)), if_neg (i_sw_x (v := 21) (w := 12) c3 (by decide)), if_neg (i_sw_x (v := 21) (w := 13) c3 (by decide)), if_neg (i_sw_x (v := 21) (w := 14) c3 (by decide)), if_neg (i_sw_x (v := 21) (w := 15) c3 (by decide)), if_neg (i_sw_x (v := 21) (w := 16) c3 (by decide)), if_neg (i_sw_x (v := 21) (w := 17) c3 (by decide)), if_neg (i_sw_x (v := 21) (w := 18) c3 (by decide)), if_neg (i_sw_x (v := 21) (w := 19) c3 (by decide)), if_neg (i_sw_x (v := 21) (w := 20) c3 (by decide)), if_pos (i_sw (v := 21) c3)] at ho
      exact h5008_J225 l1 l2  s Ia _ _ hPa hFa ho
    · rw [if_neg (i_sw_x (v := 22) (w := 4) c3 (by decide)), if_neg (i_sw_x (v := 22) (w := 5) c3 (by decide)), if_neg (i_sw_x (v := 22) (w := 6) c3 (by decide)), if_neg (i_sw_x (v := 22) (w := 7) c3 (by decide)), if_neg (i_sw_x (v := 22) (w := 8) c3 (by decide)), if_neg (i_sw_x (v := 22) (w := 9) c3 (by decide)), if_neg (i_sw_x (v := 22) (w := 10) c3 (by decide)), if_neg (i_sw_x (v := 22) (w := 11) c3 (by decide)), if_neg (i_sw_x (v := 22) (w := 12) c3 (by decide)), if_neg (i_sw_x (v := 22) (w := 13) c3 (by decide)), if_neg (i_sw_x (v := 22) (w := 14) c3 (by decide)), if_neg (i_sw_x (v := 22) (w := 15) c3 (by decide)), if_neg (i_sw_x (v := 22) (w := 16) c3 (by decide)), if_neg (i_sw_x (v := 22) (w := 17) c3 (by decide)), if_neg (i_sw_x (v := 22) (w := 18) c3 (by decide)), if_neg (i_sw_x (v := 22) (w := 19) c3 (by decide)), if_neg (i_sw_x (v := 22) (w := 20) c3 (by decide)), if_neg (i_sw_x (v := 22) (w := 21) c3 (by decide)), if_pos (i_sw (v := 22) c3)] at ho
      exact h5008_J225 l1 l2  s Ia _ _ hPa hFa ho
    · rw [if_neg (i_sw_x (v := 23) (w := 4) c3 (by decide)), if_neg (i_sw_x (v := 23) (w := 5) c3 (by decide)), if_neg (i_sw_x (v := 23) (w := 6) c3 (by decide)), if_neg (i_sw_x (v := 23) (w := 7) c3 (by decide)), if_neg (i_sw_x (v := 23) (w := 8) c3 (by decide)), if_neg (i_sw_x (v := 23) (w := 9) c3 (by decide)), if_neg (i_sw_x (v := 23) (w := 10) c3 (by decide)), if_neg (i_sw_x (v := 23) (w := 11) c3 (by decide)), if_neg (i_sw_x (v := 23) (w := 12) c3 (by decide)), if_neg (i_sw_x (v := 23) (w := 13) c3 (by decide)), if_neg (i_sw_x (v := 23) (w := 14) c3 (by decide)), if_neg (i_sw_x (v := 23) (w := 15) c3 (by decide)), if_neg (i_sw_x (v := 23) (w := 16) c3 (by decide)), if_neg (i_sw_x (v := 23) (w := 17) c3 (by decide)), if_neg (i_sw_x (v := 23) (w := 18) c3 (by decide)), if_neg (i_sw_x (v := 23) (w := 19) c3 (by decide)), if_neg (i_sw_x (v := 23) (w := 20) c3 (by decide)), if_neg (i_sw_x (v := 23) (w := 21) c3 (by decide)), if_neg (i_sw_x (v := 23) (w := 22) c3 (by decide)), if_pos (i_sw (v := 23) c3)] at ho
      exact h5008_J225 l1 l2  s Ia _ _ hPa hFa ho
    · rw [if_neg (i_sw_x (v := 24) (w := 4) c3 (by decide)), if_neg (i_sw_x (v := 24) (w := 5) c3 (by decide)), if_neg (i_sw_x (v := 24) (w := 6) c3 (by decide)), if_neg (i_sw_x (v := 24) (w := 7) c3 (by decide)), if_neg (i_sw_x (v := 24) (w := 8) c3 (by decide)), if_neg (i_sw_x (v := 24) (w := 9) c3 (by decide)), if_neg (i_sw_x (v := 24) (w := 10) c3 (by decide)), if_neg (i_sw_x (v := 24) (w := 11) c3 (by decide)), if_neg (i_sw_x (v := 24) (w := 12) c3 (by decide)), if_neg (i_sw_x (v := 24) (w := 13) c3 (by decide)), if_neg (i_sw_x (v := 24) (w := 14) c3 (by decide)), if_neg (i_sw_x (v := 24) (w := 15) c3 (by decide)), if_neg (i_sw_x (v := 24) (w := 16) c3 (by decide)), if_neg (i_sw_x (v := 24) (w := 17) c3 (by decide)), if_neg (i_sw_x (v := 24) (w := 18) c3 (by decide)), if_neg (i_sw_x (v := 24) (w := 19) c3 (by decide)), if_neg (i_sw_x (v := 24) (w := 20) c3 (by decide)), if_neg (i_sw_x (v := 24) (w := 21) c3 (by decide)), if_neg (i_sw_x (v := 24) (w := 22) c3 (by decide)), if_neg (i_sw_x (v := 24) (w := 23) c3 (by decide)), if_pos (i_sw (v := 24) c3)] at ho
      exact h5008_J225 l1 l2  s Ia _ _ hPa hFa ho
    · rw [if_neg (i_sw_x (v := 25) (w := 4) c3 (by decide)), if_neg (i_sw_x (v := 25) (w := 5) c3 (by decide)), if_neg (i_sw_x (v := 25) (w := 6) c3 (by decide)), if_neg (i_sw_x (v := 25) (w := 7) c3 (by decide)), if_neg (i_sw_x (v := 25) (w := 8) c3 (by decide)), if_neg (i_sw_x (v := 25) (w := 9) c3 (by decide)), if_neg (i_sw_x (v := 25) (w := 10) c3 (by decide)), if_neg (i_sw_x (v := 25) (w := 11) c3 (by decide)), if_neg (i_sw_x (v := 25) (w := 12) c3 (by decide)), if_neg (i_sw_x (v := 25) (w := 13) c3 (by decide)), if_neg (i_sw_x (v := 25) (w := 14) c3 (by decide)), if_neg (i_sw_x (v := 25) (w := 15) c3 (by decide)), if_neg (i_sw_x (v := 25) (w := 16) c3 (by decide)), if_neg (i_sw_x (v := 25) (w := 17) c3 (by decide)), if_neg (i_sw_x (v := 25) (w := 18) c3 (by decide)), if_neg (i_sw_x (v := 25) (w := 19) c3 (by decide)), if_neg (i_sw_x (v := 25) (w := 20) c3 (by decide)), if_neg (i_sw_x (v := 25) (w := 21) c3 (by decide)), if_neg (i_sw_x (v := 25) (w := 22) c3 (by decide)), if_neg (i_sw_x (v := 25) (w := 23) c3 (by decide)), if_neg (i_sw_x (v := 25) (w := 24) c3 (by decide)), if_pos (i_sw (v := 25) c3)] at ho
      exact h5008_J225 l1 l2  s Ia _ _ hPa hFa ho
    · rw [if_neg (i_sw_x (v := 26) (w := 4) c3 (by decide)), if_neg (i_sw_x (v := 26) (w := 5) c3 (by decide)), if_neg (i_sw_x (v := 26) (w := 6) c3 (by decide)), if_neg (i_sw_x (v := 26) (w := 7) c3 (by decide)), if_neg (i_sw_x (v := 26) (w := 8) c3 (by decide)), if_neg (i_sw_x (v := 26) (w := 9) c3 (by decide)), if_neg (i_sw_x (v := 26) (w := 10) c3 (by decide)), if_neg (i_sw_x (v := 26) (w := 11) c3 (by decide)), if_neg (i_sw_x (v := 26) (w := 12) c3 (by decide)), if_neg (i_sw_x (v := 26) (w := 13) c3 (by decide)), if_neg (i_sw_x (v := 26) (w := 14) c3 (by decide)), if_neg (i_sw_x (v := 26) (w := 15) c3 (by decide)), if_neg (i_sw_x (v := 26) (w := 16) c3 (by decide)), if_neg (i_sw_x (v := 26) (w := 17) c3 (by decide)), if_neg (i_sw_x (v := 26) (w := 18) c3 (by decide)), if_neg (i_sw_x (v := 26) (w := 19) c3 (by decide)), if_neg (i_sw_x (v := 26) (w := 20) c3 (by decide)), if_neg (i_sw_x (v := 26) (w := 21) c3 (by decide)), if_neg (i_sw_x (v := 26) (w := 22) c3 (by decide)), if_neg (i_sw_x (v := 26) (w := 23) c3 (by decide)), if_neg (i_sw_x (v := 26) (w := 24) c3 (by decide)), if_neg (i_sw_x (v := 26) (w := 25) c3 (by decide)), if_pos (i_sw (v := 26) c3)] at ho
      refine us_aload_n hR dX4_statement_155 rfl ?_
      refine us_callV hR dX4_statement_156 (y := 5010) (by decide +kernel) (by decide) (J := i5010) rfl rfl rfl rfl (ev_k2 hE) rfl (Nat.le_of_ble_eq_true rfl) (Nat.zero_le _) (Nat.zero_le _) ?_
      obtain ⟨s13, hs13⟩ := bOv_ex ho
      replace ho := bOv_go ho hs13
      refine hrec0 5010 (by decide) hPa hs13 (fun I13 hP13 hF13 => ?_)
      have hF13 := hFa.tr hF13
      refine us_goto hR dX4_statement_159 234 (by decide) ?_
      exact h5008_J234 l1 l2  s13 I13 _ _ hP13 hF13 ho
  refine us_aload_n hR dX4_statement_0 rfl ?_
  refine us_getR hR dX4_statement_1 fR_5_32 (ev_k2 hE) rfl hL.1 ?_
  refine us_aload_n hR dX4_statement_4 rfl ?_
  refine us_getIx hR dX4_statement_5 fR_5_46 (ev_k2 hE) rfl (Rep_v hP 2 (by decide)) ?_
  refine us_callV hR dX4_statement_8 (y := 4002) (by decide +kernel) (by decide) (J := i4002) rfl rfl rfl rfl (ev_k0 hE) rfl (Nat.le_of_ble_eq_true rfl) (Nat.zero_le _) (Nat.zero_le _) ?_
  refine sp_4002 hE hP  (fun I14 q14 hs14 hP14 hF14 => ?_)
  rw [← hs14] at ho
  obtain ⟨s14, r14⟩ := q14
  rw [bT_eq] at ho
  have hF14 := hF.tr hF14
  refine us_istore_n hR dX4_statement_11 (Nat.le_of_ble_eq_true rfl) ?_
  refine us_aload_n hR dX4_statement_12 rfl ?_
  refine us_callV hR dX4_statement_13 (y := 5003) (by decide +kernel) (by decide) (J := i5003) rfl rfl rfl rfl (ev_k2 hE) rfl (Nat.le_of_ble_eq_true rfl) (Nat.zero_le _) (Nat.zero_le _) ?_
  refine sp_5003 hE hL hP14  ?_
  refine us_istore_n hR dX4_statement_16 (Nat.le_of_ble_eq_true rfl) ?_
  refine us_iload_n hR dX4_statement_17 rfl ?_
  refine us_bipushC hR dX4_statement_18 (c := 7) (by decide) ?_
  refine us_icmp_eq hR dX4_statement_20 39 (by decide) (fun c16 => ?_) (fun c16 => ?_)
  · rw [if_pos c16] at ho
    exact h5008_J39 r14 (f_5003 s14)  s14 I14 _ _ hP14 hF14 ho
  · rw [if_neg c16] at ho
    refine us_iload_n hR dX4_statement_23 rfl ?_
    refine us_bipushC hR dX4_statement_24 (c := 10) (by decide) ?_
    refine us_icmp_eq hR dX4_statement_26 39 (by decide) (fun c17 => ?_) (fun c17 => ?_)
    · rw [if_pos c17] at ho
      exact h5008_J39 r14 (f_5003 s14)  s14 I14 _ _ hP14 hF14 ho
    · rw [if_neg c17] at ho
      refine us_aload_n hR dX4_statement_29 rfl ?_
      refine us_getR hR dX4_statement_30 fR_5_32 (ev_k2 hE) rfl hL.1 ?_
      refine us_iconstC hR dX4_statement_33 (c := 0) (by decide) ?_
      refine us_iconstC hR dX4_statement_34 (c := 0) (by decide) ?_
      refine us_callV hR dX4_statement_35 (y := 4005) (by decide +kernel) (by decide) (J := i4005) rfl rfl rfl rfl (ev_k0 hE) rfl (Nat.le_of_ble_eq_true rfl) (Nat.zero_le _) (Nat.zero_le _) ?_
      refine sp_4005 hE hP14  (fun I18 q18 hs18 hP18 hF18 => ?_)
      rw [← hs18] at ho
      obtain ⟨s18, r18⟩ := q18
      rw [bT_eq] at ho
      have hF18 := hF14.tr hF18
      refine us_pop hR dX4_statement_38 rfl ?_
      exact h5008_J39 r14 (f_5003 s14)  s18 I18 _ _ hP18 hF18 ho
def f_5009 (rec : Nat → Int32 → Sx → Option Sx)  (s : Sx) : Option Sx :=
  if (xg (s.1 0) ((s.2 2) + 1)) = 28 then
    bOv (rec 5021 0 s) fun s9 =>
    bT (f_4005 7 0 s9) fun s10 r10 =>
    bS (f_5006 33 s10) fun s11 =>
    some s11
  else
    bT (f_5022 (f_5004 s) s) fun s4 r4 =>
    bS (f_5006 27 s4) fun s5 =>
    bOv (rec 5018 1 s5) fun s6 =>
    bT (f_4005 3 r4 s6) fun s7 r7 =>
    bS (f_5006 33 s7) fun s8 =>
    some s8
theorem sp_5009 {d : Nat} {G : ab_G} {ad : Nat → Nat} {I : Nat → Nat → Int32} {s : Sx} {P : ab_Pq} {X : ab_Xq} (hE : EV G ad) (hL : LR G ad) (hP : Rep I ad s) {rec : Nat → Int32 → Sx → Option Sx} (hrec0 : ∀ z, z ∈ [5008, 5009, 5010, 5011, 5012, 5013, 5014, 5019, 5020, 5021] → ∀ {s o : Sx} {I : Nat → Nat → Int32} {P : ab_Pq} {X : ab_Xq}, Rep I ad s → rec z 0 s = some o → (∀ I1, Rep I1 ad o → FrE ad I I1 → P (gW G I1) none) → ab_Gam d z [.ref (ad 2)] (gW G I) P X) (hrec1 : ∀ z, z ∈ [5017, 5018] → ∀ {x : Int32} {s o : Sx} {I : Nat → Nat → Int32} {P : ab_Pq} {X : ab_Xq}, Rep I ad s → rec z x s = some o → (∀ I1, Rep I1 ad o → FrE ad I I1 → P (gW G I1) none) → ab_Gam d z [.ref (ad 2), .int x] (gW G I) P X) (hd : 12 ≤ d)   {o : Sx} (ho : f_5009 rec s = some o) (h : ∀ I1, Rep I1 ad o → FrE ad I I1 → P (gW G I1) none) : ab_Gam (d + 1) 5009 [.ref (ad 2)] (gW G I) P X := by
  have h2 := h
  obtain ⟨e, rfl⟩ : ∃ e, d = e + 12 := ⟨d - 12, by omega⟩
  have hF : FrE ad I I := FrE_rfl
  unfold f_5009 at ho
  refine ab_enter (I := i5009) rfl (Nat.le_of_ble_eq_true rfl) (fun R hR => ?_)
  refine us_aload_n hR dX4_nameStatement_0 rfl ?_
  refine us_getR hR dX4_nameStatement_1 fR_5_42 (ev_k2 hE) rfl hL.2 ?_
  refine us_getR hR dX4_nameStatement_4 fR_5_90 (ev_k1 hE) rfl (ev_r_1_0 hE) ?_
  refine us_aload_n hR dX4_nameStatement_7 rfl ?_
  refine us_getIx hR dX4_nameStatement_8 fR_5_46 (ev_k2 hE) rfl (Rep_v hP 2 (by decide)) ?_
  refine us_iconstC hR dX4_nameStatement_11 (c := 1) (by decide) ?_
  refine us_iadd hR dX4_nameStatement_12 ?_
  refine us_callV hR dX4_nameStatement_13 (y := 6002) (by decide +kernel) (by decide) (J := i6002) rfl rfl rfl rfl (ev_rk hE (by decide)) rfl (Nat.le_of_ble_eq_true rfl) (Nat.zero_le _) (Nat.zero_le _) ?_
  refine cR_get hE hP 0 (by decide) ?_
  refine us_bipushC hR dX4_nameStatement_16 (c := 28) (by decide) ?_
  refine us_icmp_ne hR dX4_nameStatement_18 39 (by decide) (fun c2 => ?_) (fun c2 => ?_)
  · rw [if_neg c2] at ho
    refine us_aload_n hR dX4_nameStatement_39 rfl ?_
    refine us_aload_n hR dX4_nameStatement_40 rfl ?_
    refine us_callV hR dX4_nameStatement_41 (y := 5004) (by decide +kernel) (by decide) (J := i5004) rfl rfl rfl rfl (ev_k2 hE) rfl (Nat.le_of_ble_eq_true rfl) (Nat.zero_le _) (Nat.zero_le _) ?_
    refine sp_5004 hE hL hP  ?_
    refine us_callV hR dX4_nameStatement_44 (y := 5022) (by decide +kernel) (by decide) (J := i5022) rfl rfl rfl rfl (ev_k2 hE) rfl (Nat.le_of_ble_eq_true rfl) (Nat.zero_le _) (Nat.zero_le _) ?_
    refine sp_5022 hE hL hP (f_names_lt _) (fun I4 q4 hs4 hP4 hF4 => ?_)
    rw [← hs4] at ho
    obtain ⟨s4, r4⟩ := q4
    rw [bT_eq] at ho
    have hF4 := hF.tr hF4
    refine us_istore_n hR dX4_nameStatement_47 (Nat.le_of_ble_eq_true rfl) ?_
    refine us_aload_n hR dX4_nameStatement_48 rfl ?_
    refine us_bipushC hR dX4_nameStatement_49 (c := 27) (by decide) ?_
    refine us_callV hR dX4_nameStatement_51 (y := 5006) (by decide +kernel) (by decide) (J := i5006) rfl rfl rfl rfl (ev_k2 hE) rfl (Nat.le_of_ble_eq_true rfl) (Nat.zero_le _) (Nat.zero_le _) ?_
    refine sp_5006 hE hL hP4  (fun I5 s5 hs5 hP5 hF5 => ?_)
    rw [← hs5, bS_eq] at ho
    have hF5 := hF4.tr hF5
    refine us_aload_n hR dX4_nameStatement_54 rfl ?_
    refine us_iconstC hR dX4_nameStatement_55 (c := 1) (by decide) ?_
    refine us_callV hR dX4_nameStatement_56 (y := 5018) (by decide +kernel) (by decide) (J := i5018) rfl rfl rfl rfl (ev_k2 hE) rfl (Nat.le_of_ble_eq_true rfl) (Nat.zero_le _) (Nat.zero_le _) ?_
    obtain ⟨s6, hs6⟩ := bOv_ex ho
    replace ho := bOv_go ho hs6
    refine hrec1 5018 (by decide) hP5 hs6 (fun I6 hP6 hF6 => ?_)
    have hF6 := hF5.tr hF6
    refine us_aload_n hR dX4_nameStatement_59 rfl ?_
    refine us_getR hR dX4_nameStatement_60 fR_5_32 (ev_k2 hE) rfl hL.1 ?_
    refine us_iconstC hR dX4_nameStatement_63 (c := 3) (by decide) ?_
    refine us_iload_n hR dX4_nameStatement_64 rfl ?_
    refine us_callV hR dX4_nameStatement_65 (y := 4005) (by decide +kernel) (by decide) (J := i4005) rfl rfl rfl rfl (ev_k0 hE) rfl (Nat.le_of_ble_eq_true rfl) (Nat.zero_le _) (Nat.zero_le _) ?_
    refine sp_4005 hE hP6  (fun I7 q7 hs7 hP7 hF7 => ?_)
    rw [← hs7] at ho
    obtain ⟨s7, r7⟩ := q7
    rw [bT_eq] at ho
    have hF7 := hF6.tr hF7
    refine us_pop hR dX4_nameStatement_68 rfl ?_
    refine us_aload_n hR dX4_nameStatement_69 rfl ?_
    refine us_bipushC hR dX4_nameStatement_70 (c := 33) (by decide) ?_
    refine us_callV hR dX4_nameStatement_72 (y := 5006) (by decide +kernel) (by decide) (J := i5006) rfl rfl rfl rfl (ev_k2 hE) rfl (Nat.le_of_ble_eq_true rfl) (Nat.zero_le _) (Nat.zero_le _) ?_
    refine sp_5006 hE hL hP7  (fun I8 s8 hs8 hP8 hF8 => ?_)
    rw [← hs8, bS_eq] at ho
    have hF8 := hF7.tr hF8
    refine us_vret hR dX4_nameStatement_75 rfl ?_
    cases ho
    exact h2 _ hP8 hF8
  · rw [if_pos c2] at ho
    refine us_aload_n hR dX4_nameStatement_21 rfl ?_
    refine us_callV hR dX4_nameStatement_22 (y := 5021) (by decide +kernel) (by decide) (J := i5021) rfl rfl rfl rfl (ev_k2 hE) rfl (Nat.le_of_ble_eq_true rfl) (Nat.zero_le _) (Nat.zero_le _) ?_
    obtain ⟨s9, hs9⟩ := bOv_ex ho
    replace ho := bOv_go ho hs9
    refine hrec0 5021 (by decide) hP hs9 (fun I9 hP9 hF9 => ?_)
    have hF9 := hF.tr hF9
    refine us_aload_n hR dX4_nameStatement_25 rfl ?_
    refine us_getR hR dX4_nameStatement_26 fR_5_32 (ev_k2 hE) rfl hL.1 ?_
    refine us_bipushC hR dX4_nameStatement_29 (c := 7) (by decide) ?_
    refine us_iconstC hR dX4_nameStatement_31 (c := 0) (by decide) ?_
    refine us_callV hR dX4_nameStatement_32 (y := 4005) (by decide +kernel) (by decide) (J := i4005) rfl rfl rfl rfl (ev_k0 hE) rfl (Nat.le_of_ble_eq_true rfl) (Nat.zero_le _) (Nat.zero_le _) ?_
    refine sp_4005 hE hP9  (fun I10 q10 hs10 hP10 hF10 => ?_)
    rw [← hs10] at ho
    obtain ⟨s10, r10⟩ := q10
    rw [bT_eq] at ho
    have hF10 := hF9.tr hF10
    refine us_pop hR dX4_nameStatement_35 rfl ?_
    refine us_goto hR dX4_nameStatement_36 69 (by decide) ?_
    refine us_aload_n hR dX4_nameStatement_69 rfl ?_
    refine us_bipushC hR dX4_nameStatement_70 (c := 33) (by decide) ?_
    refine us_callV hR dX4_nameStatement_72 (y := 5006) (by decide +kernel) (by decide) (J := i5006) rfl rfl rfl rfl (ev_k2 hE) rfl (Nat.le_of_ble_eq_true rfl) (Nat.zero_le _) (Nat.zero_le _) ?_
    refine sp_5006 hE hL hP10  (fun I11 s11 hs11 hP11 hF11 => ?_)
    rw [← hs11, bS_eq] at ho
    have hF11 := hF10.tr hF11
    refine us_vret hR dX4_nameStatement_75 rfl ?_
    cases ho
    exact h2 _ hP11 hF11
def f_5010 (rec : Nat → Int32 → Sx → Option Sx)  (s : Sx) : Option Sx :=
  bS (sB s 0 (xset (s.1 0) (s.2 2) 37)) fun s1 =>
  bS (f_5007 s1) fun s2 =>
  bOv (rec 5019 0 s2) fun s3 =>
  bS (sV s3 4 ((s3.2 4) - 1)) fun s4 =>
  bS (f_5006 27 s4) fun s5 =>
  bOv (rec 5018 1 s5) fun s6 =>
  bT (f_4005 4 0 s6) fun s7 r7 =>
  bS (f_5006 33 s7) fun s8 =>
  some s8
theorem sp_5010 {d : Nat} {G : ab_G} {ad : Nat → Nat} {I : Nat → Nat → Int32} {s : Sx} {P : ab_Pq} {X : ab_Xq} (hE : EV G ad) (hL : LR G ad) (hP : Rep I ad s) {rec : Nat → Int32 → Sx → Option Sx} (hrec0 : ∀ z, z ∈ [5008, 5009, 5010, 5011, 5012, 5013, 5014, 5019, 5020, 5021] → ∀ {s o : Sx} {I : Nat → Nat → Int32} {P : ab_Pq} {X : ab_Xq}, Rep I ad s → rec z 0 s = some o → (∀ I1, Rep I1 ad o → FrE ad I I1 → P (gW G I1) none) → ab_Gam d z [.ref (ad 2)] (gW G I) P X) (hrec1 : ∀ z, z ∈ [5017, 5018] → ∀ {x : Int32} {s o : Sx} {I : Nat → Nat → Int32} {P : ab_Pq} {X : ab_Xq}, Rep I ad s → rec z x s = some o → (∀ I1, Rep I1 ad o → FrE ad I I1 → P (gW G I1) none) → ab_Gam d z [.ref (ad 2), .int x] (gW G I) P X) (hd : 12 ≤ d)   {o : Sx} (ho : f_5010 rec s = some o) (h : ∀ I1, Rep I1 ad o → FrE ad I I1 → P (gW G I1) none) : ab_Gam (d + 1) 5010 [.ref (ad 2)] (gW G I) P X := by
  have h2 := h
  obtain ⟨e, rfl⟩ : ∃ e, d = e + 12 := ⟨d - 12, by omega⟩
  have hF : FrE ad I I := FrE_rfl
  unfold f_5010 at ho
  refine ab_enter (I := i5010) rfl (Nat.le_of_ble_eq_true rfl) (fun R hR => ?_)
  refine us_aload_n hR dX4_cellStatement_0 rfl ?_
  refine us_getR hR dX4_cellStatement_1 fR_5_42 (ev_k2 hE) rfl hL.2 ?_
  refine us_getR hR dX4_cellStatement_4 fR_5_90 (ev_k1 hE) rfl (ev_r_1_0 hE) ?_
  refine us_aload_n hR dX4_cellStatement_7 rfl ?_
  refine us_getIx hR dX4_cellStatement_8 fR_5_46 (ev_k2 hE) rfl (Rep_v hP 2 (by decide)) ?_
  refine us_bipushC hR dX4_cellStatement_11 (c := 37) (by decide) ?_
  refine us_callV hR dX4_cellStatement_13 (y := 6003) (by decide +kernel) (by decide) (J := i6003) rfl rfl rfl rfl (ev_rk hE (by decide)) rfl (Nat.le_of_ble_eq_true rfl) (Nat.zero_le _) (Nat.zero_le _) ?_
  refine cR_set hE hP 0 (by decide) (fun I1 s1 hs1 hP1 hF1 => ?_)
  rw [← hs1, bS_eq] at ho
  have hF1 := hF.tr hF1
  refine us_aload_n hR dX4_cellStatement_16 rfl ?_
  refine us_callV hR dX4_cellStatement_17 (y := 5007) (by decide +kernel) (by decide) (J := i5007) rfl rfl rfl rfl (ev_k2 hE) rfl (Nat.le_of_ble_eq_true rfl) (Nat.zero_le _) (Nat.zero_le _) ?_
  refine sp_5007 hE hL hP1  (fun I2 s2 hs2 hP2 hF2 => ?_)
  rw [← hs2, bS_eq] at ho
  have hF2 := hF1.tr hF2
  refine us_aload_n hR dX4_cellStatement_20 rfl ?_
  refine us_callV hR dX4_cellStatement_21 (y := 5019) (by decide +kernel) (by decide) (J := i5019) rfl rfl rfl rfl (ev_k2 hE) rfl (Nat.le_of_ble_eq_true rfl) (Nat.zero_le _) (Nat.zero_le _) ?_
  obtain ⟨s3, hs3⟩ := bOv_ex ho
  replace ho := bOv_go ho hs3
  refine hrec0 5019 (by decide) hP2 hs3 (fun I3 hP3 hF3 => ?_)
  have hF3 := hF2.tr hF3
  refine us_aload_n hR dX4_cellStatement_24 rfl ?_
  refine us_dup hR dX4_cellStatement_25 rfl ?_
  refine us_getIx hR dX4_cellStatement_26 fR_5_59 (ev_k2 hE) rfl (Rep_v hP3 4 (by decide)) ?_
  refine us_iconstC hR dX4_cellStatement_29 (c := 1) (by decide) ?_
  refine us_isub hR dX4_cellStatement_30 ?_
  refine us_putIx hE hP3 4 (by decide) hR dX4_cellStatement_31 fR_5_59 (Or.inl rfl) (ev_k2 hE) rfl rfl (fun I4 s4 hs4 hP4 hF4 => ?_)
  rw [← hs4, bS_eq] at ho
  have hF4 := hF3.tr hF4
  refine us_aload_n hR dX4_cellStatement_34 rfl ?_
  refine us_bipushC hR dX4_cellStatement_35 (c := 27) (by decide) ?_
  refine us_callV hR dX4_cellStatement_37 (y := 5006) (by decide +kernel) (by decide) (J := i5006) rfl rfl rfl rfl (ev_k2 hE) rfl (Nat.le_of_ble_eq_true rfl) (Nat.zero_le _) (Nat.zero_le _) ?_
  refine sp_5006 hE hL hP4  (fun I5 s5 hs5 hP5 hF5 => ?_)
  rw [← hs5, bS_eq] at ho
  have hF5 := hF4.tr hF5
  refine us_aload_n hR dX4_cellStatement_40 rfl ?_
  refine us_iconstC hR dX4_cellStatement_41 (c := 1) (by decide) ?_
  refine us_callV hR dX4_cellStatement_42 (y := 5018) (by decide +kernel) (by decide) (J := i5018) rfl rfl rfl rfl (ev_k2 hE) rfl (Nat.le_of_ble_eq_true rfl) (Nat.zero_le _) (Nat.zero_le _) ?_
  obtain ⟨s6, hs6⟩ := bOv_ex ho
  replace ho := bOv_go ho hs6
  refine hrec1 5018 (by decide) hP5 hs6 (fun I6 hP6 hF6 => ?_)
  have hF6 := hF5.tr hF6
  refine us_aload_n hR dX4_cellStatement_45 rfl ?_
  refine us_getR hR dX4_cellStatement_46 fR_5_32 (ev_k2 hE) rfl hL.1 ?_
  refine us_iconstC hR dX4_cellStatement_49 (c := 4) (by decide) ?_
  refine us_iconstC hR dX4_cellStatement_50 (c := 0) (by decide) ?_
  refine us_callV hR dX4_cellStatement_51 (y := 4005) (by decide +kernel) (by decide) (J := i4005) rfl rfl rfl rfl (ev_k0 hE) rfl (Nat.le_of_ble_eq_true rfl) (Nat.zero_le _) (Nat.zero_le _) ?_
  refine sp_4005 hE hP6  (fun I7 q7 hs7 hP7 hF7 => ?_)
  rw [← hs7] at ho
  obtain ⟨s7, r7⟩ := q7
  rw [bT_eq] at ho
  have hF7 := hF6.tr hF7
  refine us_pop hR dX4_cellStatement_54 rfl ?_
  refine us_aload_n hR dX4_cellStatement_55 rfl ?_
  refine us_bipushC hR dX4_cellStatement_56 (c := 33) (by decide) ?_
  refine us_callV hR dX4_cellStatement_58 (y := 5006) (by decide +kernel) (by decide) (J := i5006) rfl rfl rfl rfl (ev_k2 hE) rfl (Nat.le_of_ble_eq_true rfl) (Nat.zero_le _) (Nat.zero_le _) ?_
  refine sp_5006 hE hL hP7  (fun I8 s8 hs8 hP8 hF8 => ?_)
  rw [← hs8, bS_eq] at ho
  have hF8 := hF7.tr hF8
  refine us_vret hR dX4_cellStatement_61 rfl ?_
  cases ho
  exact h2 _ hP8 hF8
def f_5011 (rec : Nat → Int32 → Sx → Option Sx)  (s : Sx) : Option Sx :=
  bS (sV s 2 ((s.2 2) + 1)) fun s1 =>
  bOv (rec 5018 1 s1) fun s2 =>
  bT (f_4005 14 0 s2) fun s3 r3 =>
  bOv (rec 5017 (s.2 2) s3) fun s4 =>
  if (f_5003 s4) = 6 then
    bS (sV s4 2 ((s4.2 2) + 1)) fun s9 =>
    bT (f_4005 13 0 s9) fun s10 r10 =>
    bS (f_4009 r3 (f_4006 s10) s10) fun s12 =>
    bOv (rec 5017 (s4.2 2) s12) fun s13 =>
    bS (f_4009 r10 (f_4006 s13) s13) fun s15 =>
    some s15
  else
    bS (f_4009 r3 (f_4006 s4) s4) fun s8 =>
    some s8
theorem sp_5011 {d : Nat} {G : ab_G} {ad : Nat → Nat} {I : Nat → Nat → Int32} {s : Sx} {P : ab_Pq} {X : ab_Xq} (hE : EV G ad) (hL : LR G ad) (hP : Rep I ad s) {rec : Nat → Int32 → Sx → Option Sx} (hrec0 : ∀ z, z ∈ [5008, 5009, 5010, 5011, 5012, 5013, 5014, 5019, 5020, 5021] → ∀ {s o : Sx} {I : Nat → Nat → Int32} {P : ab_Pq} {X : ab_Xq}, Rep I ad s → rec z 0 s = some o → (∀ I1, Rep I1 ad o → FrE ad I I1 → P (gW G I1) none) → ab_Gam d z [.ref (ad 2)] (gW G I) P X) (hrec1 : ∀ z, z ∈ [5017, 5018] → ∀ {x : Int32} {s o : Sx} {I : Nat → Nat → Int32} {P : ab_Pq} {X : ab_Xq}, Rep I ad s → rec z x s = some o → (∀ I1, Rep I1 ad o → FrE ad I I1 → P (gW G I1) none) → ab_Gam d z [.ref (ad 2), .int x] (gW G I) P X) (hd : 12 ≤ d)   {o : Sx} (ho : f_5011 rec s = some o) (h : ∀ I1, Rep I1 ad o → FrE ad I I1 → P (gW G I1) none) : ab_Gam (d + 1) 5011 [.ref (ad 2)] (gW G I) P X := by
  have h2 := h
  obtain ⟨e, rfl⟩ : ∃ e, d = e + 12 := ⟨d - 12, by omega⟩
  have hF : FrE ad I I := FrE_rfl
  unfold f_5011 at ho
  refine ab_enter (I := i5011) rfl (Nat.le_of_ble_eq_true rfl) (fun R hR => ?_)
  refine us_aload_n hR dX4_ifStatement_0 rfl ?_
  refine us_getIx hR dX4_ifStatement_1 fR_5_46 (ev_k2 hE) rfl (Rep_v hP 2 (by decide)) ?_
  refine us_istore_n hR dX4_ifStatement_4 (Nat.le_of_ble_eq_true rfl) ?_
  refine us_aload_n hR dX4_ifStatement_5 rfl ?_
  refine us_dup hR dX4_ifStatement_6 rfl ?_
  refine us_getIx hR dX4_ifStatement_7 fR_5_46 (ev_k2 hE) rfl (Rep_v hP 2 (by decide)) ?_
  refine us_iconstC hR dX4_ifStatement_10 (c := 1) (by decide) ?_
  refine us_iadd hR dX4_ifStatement_11 ?_
  refine us_putIx hE hP 2 (by decide) hR dX4_ifStatement_12 fR_5_46 (Or.inl rfl) (ev_k2 hE) rfl rfl (fun I1 s1 hs1 hP1 hF1 => ?_)
  rw [← hs1, bS_eq] at ho
  have hF1 := hF.tr hF1
  refine us_aload_n hR dX4_ifStatement_15 rfl ?_
  refine us_iconstC hR dX4_ifStatement_16 (c := 1) (by decide) ?_
  refine us_callV hR dX4_ifStatement_17 (y := 5018) (by decide +kernel) (by decide) (J := i5018) rfl rfl rfl rfl (ev_k2 hE) rfl (Nat.le_of_ble_eq_true rfl) (Nat.zero_le _) (Nat.zero_le _) ?_
  obtain ⟨s2, hs2⟩ := bOv_ex ho
  replace ho := bOv_go ho hs2
  refine hrec1 5018 (by decide) hP1 hs2 (fun I2 hP2 hF2 => ?_)
  have hF2 := hF1.tr hF2
  refine us_aload_n hR dX4_ifStatement_20 rfl ?_
  refine us_getR hR dX4_ifStatement_21 fR_5_32 (ev_k2 hE) rfl hL.1 ?_
  refine us_bipushC hR dX4_ifStatement_24 (c := 14) (by decide) ?_
  refine us_iconstC hR dX4_ifStatement_26 (c := 0) (by decide) ?_
  refine us_callV hR dX4_ifStatement_27 (y := 4005) (by decide +kernel) (by decide) (J := i4005) rfl rfl rfl rfl (ev_k0 hE) rfl (Nat.le_of_ble_eq_true rfl) (Nat.zero_le _) (Nat.zero_le _) ?_
  refine sp_4005 hE hP2  (fun I3 q3 hs3 hP3 hF3 => ?_)
  rw [← hs3] at ho
  obtain ⟨s3, r3⟩ := q3
  rw [bT_eq] at ho
  have hF3 := hF2.tr hF3
  refine us_istore_n hR dX4_ifStatement_30 (Nat.le_of_ble_eq_true rfl) ?_
  refine us_aload_n hR dX4_ifStatement_31 rfl ?_
  refine us_iload_n hR dX4_ifStatement_32 rfl ?_
  refine us_callV hR dX4_ifStatement_33 (y := 5017) (by decide +kernel) (by decide) (J := i5017) rfl rfl rfl rfl (ev_k2 hE) rfl (Nat.le_of_ble_eq_true rfl) (Nat.zero_le _) (Nat.zero_le _) ?_
  obtain ⟨s4, hs4⟩ := bOv_ex ho
  replace ho := bOv_go ho hs4
  refine hrec1 5017 (by decide) hP3 hs4 (fun I4 hP4 hF4 => ?_)
  have hF4 := hF3.tr hF4
  refine us_aload_n hR dX4_ifStatement_36 rfl ?_
  refine us_callV hR dX4_ifStatement_37 (y := 5003) (by decide +kernel) (by decide) (J := i5003) rfl rfl rfl rfl (ev_k2 hE) rfl (Nat.le_of_ble_eq_true rfl) (Nat.zero_le _) (Nat.zero_le _) ?_
  refine sp_5003 hE hL hP4  ?_
  refine us_bipushC hR dX4_ifStatement_40 (c := 6) (by decide) ?_
  refine us_icmp_ne hR dX4_ifStatement_42 111 (by decide) (fun c6 => ?_) (fun c6 => ?_)
  · rw [if_neg c6] at ho
    refine us_aload_n hR dX4_ifStatement_111 rfl ?_
    refine us_getR hR dX4_ifStatement_112 fR_5_32 (ev_k2 hE) rfl hL.1 ?_
    refine us_iload_n hR dX4_ifStatement_115 rfl ?_
    refine us_aload_n hR dX4_ifStatement_116 rfl ?_
    refine us_getR hR dX4_ifStatement_117 fR_5_32 (ev_k2 hE) rfl hL.1 ?_
    refine us_callV hR dX4_ifStatement_120 (y := 4006) (by decide +kernel) (by decide) (J := i4006) rfl rfl rfl rfl (ev_k0 hE) rfl (Nat.le_of_ble_eq_true rfl) (Nat.zero_le _) (Nat.zero_le _) ?_
    refine sp_4006 hE hP4  ?_
    refine us_callV hR dX4_ifStatement_123 (y := 4009) (by decide +kernel) (by decide) (J := i4009) rfl rfl rfl rfl (ev_k0 hE) rfl (Nat.le_of_ble_eq_true rfl) (Nat.zero_le _) (Nat.zero_le _) ?_
    refine sp_4009 hE hP4  (fun I8 s8 hs8 hP8 hF8 => ?_)
    rw [← hs8, bS_eq] at ho
    have hF8 := hF4.tr hF8
    refine us_vret hR dX4_ifStatement_126 rfl ?_
    cases ho
    exact h2 _ hP8 hF8
  · rw [if_pos c6] at ho
    refine us_aload_n hR dX4_ifStatement_45 rfl ?_
    refine us_getIx hR dX4_ifStatement_46 fR_5_46 (ev_k2 hE) rfl (Rep_v hP4 2 (by decide)) ?_
    refine us_istore_n hR dX4_ifStatement_49 (Nat.le_of_ble_eq_true rfl) ?_
    refine us_aload_n hR dX4_ifStatement_50 rfl ?_
    refine us_dup hR dX4_ifStatement_51 rfl ?_
    refine us_getIx hR dX4_ifStatement_52 fR_5_46 (ev_k2 hE) rfl (Rep_v hP4 2 (by decide)) ?_
    refine us_iconstC hR dX4_ifStatement_55 (c := 1) (by decide) ?_
    refine us_iadd hR dX4_ifStatement_56 ?_
    refine us_putIx hE hP4 2 (by decide) hR dX4_ifStatement_57 fR_5_46 (Or.inl rfl) (ev_k2 hE) rfl rfl (fun I9 s9 hs9 hP9 hF9 => ?_)
    rw [← hs9, bS_eq] at ho
    have hF9 := hF4.tr hF9
    refine us_aload_n hR dX4_ifStatement_60 rfl ?_
    refine us_getR hR dX4_ifStatement_61 fR_5_32 (ev_k2 hE) rfl hL.1 ?_
    refine us_bipushC hR dX4_ifStatement_64 (c := 13) (by decide) ?_
    refine us_iconstC hR dX4_ifStatement_66 (c := 0) (by decide) ?_
    refine us_callV hR dX4_ifStatement_67 (y := 4005) (by decide +kernel) (by decide) (J := i4005) rfl rfl rfl rfl (ev_k0 hE) rfl (Nat.le_of_ble_eq_true rfl) (Nat.zero_le _) (Nat.zero_le _) ?_
    refine sp_4005 hE hP9  (fun I10 q10 hs10 hP10 hF10 => ?_)
    rw [← hs10] at ho
    obtain ⟨s10, r10⟩ := q10
    rw [bT_eq] at ho
    have hF10 := hF9.tr hF10
    refine us_istore hR dX4_ifStatement_70 (Nat.le_of_ble_eq_true rfl) ?_
    refine us_aload_n hR dX4_ifStatement_72 rfl ?_
    refine us_getR hR dX4_ifStatement_73 fR_5_32 (ev_k2 hE) rfl hL.1 ?_
    refine us_iload_n hR dX4_ifStatement_76 rfl ?_
    refine us_aload_n hR dX4_ifStatement_77 rfl ?_
    refine us_getR hR dX4_ifStatement_78 fR_5_32 (ev_k2 hE) rfl hL.1 ?_
    refine us_callV hR dX4_ifStatement_81 (y := 4006) (by decide +kernel) (by decide) (J := i4006) rfl rfl rfl rfl (ev_k0 hE) rfl (Nat.le_of_ble_eq_true rfl) (Nat.zero_le _) (Nat.zero_le _) ?_
    refine sp_4006 hE hP10  ?_
    refine us_callV hR dX4_ifStatement_84 (y := 4009) (by decide +kernel) (by decide) (J := i4009) rfl rfl rfl rfl (ev_k0 hE) rfl (Nat.le_of_ble_eq_true rfl) (Nat.zero_le _) (Nat.zero_le _) ?_
    refine sp_4009 hE hP10  (fun I12 s12 hs12 hP12 hF12 => ?_)
    rw [← hs12, bS_eq] at ho
    have hF12 := hF10.tr hF12
    refine us_aload_n hR dX4_ifStatement_87 rfl ?_
    refine us_iload_n hR dX4_ifStatement_88 rfl ?_
    refine us_callV hR dX4_ifStatement_89 (y := 5017) (by decide +kernel) (by decide) (J := i5017) rfl rfl rfl rfl (ev_k2 hE) rfl (Nat.le_of_ble_eq_true rfl) (Nat.zero_le _) (Nat.zero_le _) ?_
    obtain ⟨s13, hs13⟩ := bOv_ex ho
    replace ho := bOv_go ho hs13
    refine hrec1 5017 (by decide) hP12 hs13 (fun I13 hP13 hF13 => ?_)
    have hF13 := hF12.tr hF13
    refine us_aload_n hR dX4_ifStatement_92 rfl ?_
    refine us_getR hR dX4_ifStatement_93 fR_5_32 (ev_k2 hE) rfl hL.1 ?_
    refine us_iload hR dX4_ifStatement_96 rfl ?_
    refine us_aload_n hR dX4_ifStatement_98 rfl ?_
    refine us_getR hR dX4_ifStatement_99 fR_5_32 (ev_k2 hE) rfl hL.1 ?_
    refine us_callV hR dX4_ifStatement_102 (y := 4006) (by decide +kernel) (by decide) (J := i4006) rfl rfl rfl rfl (ev_k0 hE) rfl (Nat.le_of_ble_eq_true rfl) (Nat.zero_le _) (Nat.zero_le _) ?_
    refine sp_4006 hE hP13  ?_
    refine us_callV hR dX4_ifStatement_105 (y := 4009) (by decide +kernel) (by decide) (J := i4009) rfl rfl rfl rfl (ev_k0 hE) rfl (Nat.le_of_ble_eq_true rfl) (Nat.zero_le _) (Nat.zero_le _) ?_
    refine sp_4009 hE hP13  (fun I15 s15 hs15 hP15 hF15 => ?_)
    rw [← hs15, bS_eq] at ho
    have hF15 := hF13.tr hF15
    refine us_goto hR dX4_ifStatement_108 126 (by decide) ?_
    refine us_vret hR dX4_ifStatement_126 rfl ?_
    cases ho
    exact h2 _ hP15 hF15
def f_5012 (rec : Nat → Int32 → Sx → Option Sx)  (s : Sx) : Option Sx :=
  bS (sV s 2 ((s.2 2) + 1)) fun s1 =>
  bT (f_4005 0 0 s1) fun s2 r2 =>
  bOv (rec 5018 1 s2) fun s3 =>
  bT (f_4005 14 0 s3) fun s4 r4 =>
  bOv (rec 5017 (s.2 2) s4) fun s5 =>
  bT (f_4005 13 r2 s5) fun s6 r6 =>
  bS (f_4009 r4 (f_4006 s6) s6) fun s8 =>
  some s8
theorem sp_5012 {d : Nat} {G : ab_G} {ad : Nat → Nat} {I : Nat → Nat → Int32} {s : Sx} {P : ab_Pq} {X : ab_Xq} (hE : EV G ad) (hL : LR G ad) (hP : Rep I ad s) {rec : Nat → Int32 → Sx → Option Sx} (hrec0 : ∀ z, z ∈ [5008, 5009, 5010, 5011, 5012, 5013, 5014, 5019, 5020, 5021] → ∀ {s o : Sx} {I : Nat → Nat → Int32} {P : ab_Pq} {X : ab_Xq}, Rep I ad s → rec z 0 s = some o → (∀ I1, Rep I1 ad o → FrE ad I I1 → P (gW G I1) none) → ab_Gam d z [.ref (ad 2)] (gW G I) P X) (hrec1 : ∀ z, z ∈ [5017, 5018] → ∀ {x : Int32} {s o : Sx} {I : Nat → Nat → Int32} {P : ab_Pq} {X : ab_Xq}, Rep I ad s → rec z x s = some o → (∀ I1, Rep I1 ad o → FrE ad I I1 → P (gW G I1) none) → ab_Gam d z [.ref (ad 2), .int x] (gW G I) P X) (hd : 12 ≤ d)   {o : Sx} (ho : f_5012 rec s = some o) (h : ∀ I1, Rep I1 ad o → FrE ad I I1 → P (gW G I1) none) : ab_Gam (d + 1) 5012 [.ref (ad 2)] (gW G I) P X := by
  have h2 := h
  obtain ⟨e, rfl⟩ : ∃ e, d = e + 12 := ⟨d - 12, by omega⟩
  have hF : FrE ad I I := FrE_rfl
  unfold f_5012 at ho
  refine ab_enter (I := i5012) rfl (Nat.le_of_ble_eq_true rfl) (fun R hR => ?_)
  refine us_aload_n hR dX4_whileStatement_0 rfl ?_
  refine us_getIx hR dX4_whileStatement_1 fR_5_46 (ev_k2 hE) rfl (Rep_v hP 2 (by decide)) ?_
  refine us_istore_n hR dX4_whileStatement_4 (Nat.le_of_ble_eq_true rfl) ?_
  refine us_aload_n hR dX4_whileStatement_5 rfl ?_
  refine us_dup hR dX4_whileStatement_6 rfl ?_
  refine us_getIx hR dX4_whileStatement_7 fR_5_46 (ev_k2 hE) rfl (Rep_v hP 2 (by decide)) ?_
  refine us_iconstC hR dX4_whileStatement_10 (c := 1) (by decide) ?_
  refine us_iadd hR dX4_whileStatement_11 ?_
  refine us_putIx hE hP 2 (by decide) hR dX4_whileStatement_12 fR_5_46 (Or.inl rfl) (ev_k2 hE) rfl rfl (fun I1 s1 hs1 hP1 hF1 => ?_)
  rw [← hs1, bS_eq] at ho
  have hF1 := hF.tr hF1
  refine us_aload_n hR dX4_whileStatement_15 rfl ?_
  refine us_getR hR dX4_whileStatement_16 fR_5_32 (ev_k2 hE) rfl hL.1 ?_
  refine us_iconstC hR dX4_whileStatement_19 (c := 0) (by decide) ?_
  refine us_iconstC hR dX4_whileStatement_20 (c := 0) (by decide) ?_
  refine us_callV hR dX4_whileStatement_21 (y := 4005) (by decide +kernel) (by decide) (J := i4005) rfl rfl rfl rfl (ev_k0 hE) rfl (Nat.le_of_ble_eq_true rfl) (Nat.zero_le _) (Nat.zero_le _) ?_
  refine sp_4005 hE hP1  (fun I2 q2 hs2 hP2 hF2 => ?_)
  rw [← hs2] at ho
  obtain ⟨s2, r2⟩ := q2
  rw [bT_eq] at ho
  have hF2 := hF1.tr hF2
  refine us_istore_n hR dX4_whileStatement_24 (Nat.le_of_ble_eq_true rfl) ?_
  refine us_aload_n hR dX4_whileStatement_25 rfl ?_
  refine us_iconstC hR dX4_whileStatement_26 (c := 1) (by decide) ?_
  refine us_callV hR dX4_whileStatement_27 (y := 5018) (by decide +kernel) (by decide) (J := i5018) rfl rfl rfl rfl (ev_k2 hE) rfl (Nat.le_of_ble_eq_true rfl) (Nat.zero_le _) (Nat.zero_le _) ?_
  obtain ⟨s3, hs3⟩ := bOv_ex ho
  replace ho := bOv_go ho hs3
  refine hrec1 5018 (by decide) hP2 hs3 (fun I3 hP3 hF3 => ?_)
  have hF3 := hF2.tr hF3
  refine us_aload_n hR dX4_whileStatement_30 rfl ?_
  refine us_getR hR dX4_whileStatement_31 fR_5_32 (ev_k2 hE) rfl hL.1 ?_
  refine us_bipushC hR dX4_whileStatement_34 (c := 14) (by decide) ?_
  refine us_iconstC hR dX4_whileStatement_36 (c := 0) (by decide) ?_
  refine us_callV hR dX4_whileStatement_37 (y := 4005) (by decide +kernel) (by decide) (J := i4005) rfl rfl rfl rfl (ev_k0 hE) rfl (Nat.le_of_ble_eq_true rfl) (Nat.zero_le _) (Nat.zero_le _) ?_
  refine sp_4005 hE hP3  (fun I4 q4 hs4 hP4 hF4 => ?_)
  rw [← hs4] at ho
  obtain ⟨s4, r4⟩ := q4
  rw [bT_eq] at ho
  have hF4 := hF3.tr hF4
  refine us_istore_n hR dX4_whileStatement_40 (Nat.le_of_ble_eq_true rfl) ?_
  refine us_aload_n hR dX4_whileStatement_41 rfl ?_
  refine us_iload_n hR dX4_whileStatement_42 rfl ?_
  refine us_callV hR dX4_whileStatement_43 (y := 5017) (by decide +kernel) (by decide) (J := i5017) rfl rfl rfl rfl (ev_k2 hE) rfl (Nat.le_of_ble_eq_true rfl) (Nat.zero_le _) (Nat.zero_le _) ?_
  obtain ⟨s5, hs5⟩ := bOv_ex ho
  replace ho := bOv_go ho hs5
  refine hrec1 5017 (by decide) hP4 hs5 (fun I5 hP5 hF5 => ?_)
  have hF5 := hF4.tr hF5
  refine us_aload_n hR dX4_whileStatement_46 rfl ?_
  refine us_getR hR dX4_whileStatement_47 fR_5_32 (ev_k2 hE) rfl hL.1 ?_
  refine us_bipushC hR dX4_whileStatement_50 (c := 13) (by decide) ?_
  refine us_iload_n hR dX4_whileStatement_52 rfl ?_
  refine us_callV hR dX4_whileStatement_53 (y := 4005) (by decide +kernel) (by decide) (J := i4005) rfl rfl rfl rfl (ev_k0 hE) rfl (Nat.le_of_ble_eq_true rfl) (Nat.zero_le _) (Nat.zero_le _) ?_
  refine sp_4005 hE hP5  (fun I6 q6 hs6 hP6 hF6 => ?_)
  rw [← hs6] at ho
  obtain ⟨s6, r6⟩ := q6
  rw [bT_eq] at ho
  have hF6 := hF5.tr hF6
  refine us_pop hR dX4_whileStatement_56 rfl ?_
  refine us_aload_n hR dX4_whileStatement_57 rfl ?_
  refine us_getR hR dX4_whileStatement_58 fR_5_32 (ev_k2 hE) rfl hL.1 ?_
  refine us_iload_n hR dX4_whileStatement_61 rfl ?_
  refine us_aload_n hR dX4_whileStatement_62 rfl ?_
  refine us_getR hR dX4_whileStatement_63 fR_5_32 (ev_k2 hE) rfl hL.1 ?_
  refine us_callV hR dX4_whileStatement_66 (y := 4006) (by decide +kernel) (by decide) (J := i4006) rfl rfl rfl rfl (ev_k0 hE) rfl (Nat.le_of_ble_eq_true rfl) (Nat.zero_le _) (Nat.zero_le _) ?_
  refine sp_4006 hE hP6  ?_
  refine us_callV hR dX4_whileStatement_69 (y := 4009) (by decide +kernel) (by decide) (J := i4009) rfl rfl rfl rfl (ev_k0 hE) rfl (Nat.le_of_ble_eq_true rfl) (Nat.zero_le _) (Nat.zero_le _) ?_
  refine sp_4009 hE hP6  (fun I8 s8 hs8 hP8 hF8 => ?_)
  rw [← hs8, bS_eq] at ho
  have hF8 := hF6.tr hF8
  refine us_vret hR dX4_whileStatement_72 rfl ?_
  cases ho
  exact h2 _ hP8 hF8
def f_5013 (rec : Nat → Int32 → Sx → Option Sx)  (s : Sx) : Option Sx :=
  if (s.2 5) = 0 then
    bS (f_5005 3 (s.2 2) s) fun s6 =>
    some s6
  else
    bS (sV s 2 ((s.2 2) + 1)) fun s2 =>
    bOv (rec 5018 1 s2) fun s3 =>
    bT (f_4005 16 0 s3) fun s4 r4 =>
    bS (f_5006 33 s4) fun s5 =>
    some s5
theorem sp_5013 {d : Nat} {G : ab_G} {ad : Nat → Nat} {I : Nat → Nat → Int32} {s : Sx} {P : ab_Pq} {X : ab_Xq} (hE : EV G ad) (hL : LR G ad) (hP : Rep I ad s) {rec : Nat → Int32 → Sx → Option Sx} (hrec0 : ∀ z, z ∈ [5008, 5009, 5010, 5011, 5012, 5013, 5014, 5019, 5020, 5021] → ∀ {s o : Sx} {I : Nat → Nat → Int32} {P : ab_Pq} {X : ab_Xq}, Rep I ad s → rec z 0 s = some o → (∀ I1, Rep I1 ad o → FrE ad I I1 → P (gW G I1) none) → ab_Gam d z [.ref (ad 2)] (gW G I) P X) (hrec1 : ∀ z, z ∈ [5017, 5018] → ∀ {x : Int32} {s o : Sx} {I : Nat → Nat → Int32} {P : ab_Pq} {X : ab_Xq}, Rep I ad s → rec z x s = some o → (∀ I1, Rep I1 ad o → FrE ad I I1 → P (gW G I1) none) → ab_Gam d z [.ref (ad 2), .int x] (gW G I) P X) (hd : 12 ≤ d)   {o : Sx} (ho : f_5013 rec s = some o) (h : ∀ I1, Rep I1 ad o → FrE ad I I1 → P (gW G I1) none) : ab_Gam (d + 1) 5013 [.ref (ad 2)] (gW G I) P X := by
  have h2 := h
  obtain ⟨e, rfl⟩ : ∃ e, d = e + 12 := ⟨d - 12, by omega⟩
  have hF : FrE ad I I := FrE_rfl
  unfold f_5013 at ho
  refine ab_enter (I := i5013) rfl (Nat.le_of_ble_eq_true rfl) (fun R hR => ?_)
  refine us_aload_n hR dX4_returnStatement_0 rfl ?_
  refine us_getIx hR dX4_returnStatement_1 fR_5_62 (ev_k2 hE) rfl (Rep_v hP 5 (by decide)) ?_
  refine us_if_ne hR dX4_returnStatement_4 17 (by decide) (fun c1 => ?_) (fun c1 => ?_)
  · rw [if_neg c1] at ho
    refine us_aload_n hR dX4_returnStatement_17 rfl ?_
    refine us_dup hR dX4_returnStatement_18 rfl ?_
    refine us_getIx hR dX4_returnStatement_19 fR_5_46 (ev_k2 hE) rfl (Rep_v hP 2 (by decide)) ?_
    refine us_iconstC hR dX4_returnStatement_22 (c := 1) (by decide) ?_
    refine us_iadd hR dX4_returnStatement_23 ?_
    refine us_putIx hE hP 2 (by decide) hR dX4_returnStatement_24 fR_5_46 (Or.inl rfl) (ev_k2 hE) rfl rfl (fun I2 s2 hs2 hP2 hF2 => ?_)
    rw [← hs2, bS_eq] at ho
    have hF2 := hF.tr hF2
    refine us_aload_n hR dX4_returnStatement_27 rfl ?_
    refine us_iconstC hR dX4_returnStatement_28 (c := 1) (by decide) ?_
    refine us_callV hR dX4_returnStatement_29 (y := 5018) (by decide +kernel) (by decide) (J := i5018) rfl rfl rfl rfl (ev_k2 hE) rfl (Nat.le_of_ble_eq_true rfl) (Nat.zero_le _) (Nat.zero_le _) ?_
    obtain ⟨s3, hs3⟩ := bOv_ex ho
    replace ho := bOv_go ho hs3
    refine hrec1 5018 (by decide) hP2 hs3 (fun I3 hP3 hF3 => ?_)
    have hF3 := hF2.tr hF3
    refine us_aload_n hR dX4_returnStatement_32 rfl ?_
    refine us_getR hR dX4_returnStatement_33 fR_5_32 (ev_k2 hE) rfl hL.1 ?_
    refine us_bipushC hR dX4_returnStatement_36 (c := 16) (by decide) ?_
    refine us_iconstC hR dX4_returnStatement_38 (c := 0) (by decide) ?_
    refine us_callV hR dX4_returnStatement_39 (y := 4005) (by decide +kernel) (by decide) (J := i4005) rfl rfl rfl rfl (ev_k0 hE) rfl (Nat.le_of_ble_eq_true rfl) (Nat.zero_le _) (Nat.zero_le _) ?_
    refine sp_4005 hE hP3  (fun I4 q4 hs4 hP4 hF4 => ?_)
    rw [← hs4] at ho
    obtain ⟨s4, r4⟩ := q4
    rw [bT_eq] at ho
    have hF4 := hF3.tr hF4
    refine us_pop hR dX4_returnStatement_42 rfl ?_
    refine us_aload_n hR dX4_returnStatement_43 rfl ?_
    refine us_bipushC hR dX4_returnStatement_44 (c := 33) (by decide) ?_
    refine us_callV hR dX4_returnStatement_46 (y := 5006) (by decide +kernel) (by decide) (J := i5006) rfl rfl rfl rfl (ev_k2 hE) rfl (Nat.le_of_ble_eq_true rfl) (Nat.zero_le _) (Nat.zero_le _) ?_
    refine sp_5006 hE hL hP4  (fun I5 s5 hs5 hP5 hF5 => ?_)
    rw [← hs5, bS_eq] at ho
    have hF5 := hF4.tr hF5
    refine us_vret hR dX4_returnStatement_49 rfl ?_
    cases ho
    exact h2 _ hP5 hF5
  · rw [if_pos c1] at ho
    refine us_aload_n hR dX4_returnStatement_7 rfl ?_
    refine us_iconstC hR dX4_returnStatement_8 (c := 3) (by decide) ?_
    refine us_aload_n hR dX4_returnStatement_9 rfl ?_
    refine us_getIx hR dX4_returnStatement_10 fR_5_46 (ev_k2 hE) rfl (Rep_v hP 2 (by decide)) ?_
    refine us_callV hR dX4_returnStatement_13 (y := 5005) (by decide +kernel) (by decide) (J := i5005) rfl rfl rfl rfl (ev_k2 hE) rfl (Nat.le_of_ble_eq_true rfl) (Nat.zero_le _) (Nat.zero_le _) ?_
    refine sp_5005 hE hL hP  (fun I6 s6 hs6 hP6 hF6 => ?_)
    rw [← hs6, bS_eq] at ho
    have hF6 := hF.tr hF6
    refine us_vret hR dX4_returnStatement_16 rfl ?_
    cases ho
    exact h2 _ hP6 hF6
def f_5014 (rec : Nat → Int32 → Sx → Option Sx)  (s : Sx) : Option Sx :=
  if (s.2 4) ≤ 0 then
    bS (sV s 2 ((s.2 2) + 1)) fun s2 =>
    if (f_5003 s2) = 4 then
      if (f_4012 (xg (s2.1 1) (s2.2 2)) s2) = (-1) then
        bT (f_4010 (xg (s2.1 1) (s2.2 2)) s2) fun s9 r9 =>
        bS (sB s9 0 (xset (s9.1 0) (s9.2 2) 35)) fun s10 =>
        bS (sV s10 2 ((s10.2 2) + 1)) fun s11 =>
        bT (f_4005 13 0 s11) fun s12 r12 =>
        bOv (f_5015 s12) fun s13 =>
        bS (f_4011 r9 (nI (s13.1 14).length) (s13.2 2) (f_4006 s13) s13) fun s16 =>
        bS (sV s16 5 1) fun s17 =>
        bOv (rec 5017 (s.2 2) s17) fun s18 =>
        bS (sV s18 5 0) fun s19 =>
        bT (f_4005 1 0 s19) fun s20 r20 =>
        bT (f_4005 16 0 s20) fun s21 r21 =>
        bS (f_4009 r12 (f_4006 s21) s21) fun s23 =>
        bS (sB s23 1 (xset (s23.1 1) (s.2 2) (s23.2 2))) fun s24 =>
        some s24
      else
        bS (f_5005 6 (s2.2 2) s2) fun s25 =>
        some s25
    else
      bS (f_5005 3 (s2.2 2) s2) fun s26 =>
      some s26
  else
    bS (f_5005 3 (s.2 2) s) fun s27 =>
    some s27
theorem sp_5014 {d : Nat} {G : ab_G} {ad : Nat → Nat} {I : Nat → Nat → Int32} {s : Sx} {P : ab_Pq} {X : ab_Xq} (hE : EV G ad) (hL : LR G ad) (hP : Rep I ad s) {rec : Nat → Int32 → Sx → Option Sx} (hrec0 : ∀ z, z ∈ [5008, 5009, 5010, 5011, 5012, 5013, 5014, 5019, 5020, 5021] → ∀ {s o : Sx} {I : Nat → Nat → Int32} {P : ab_Pq} {X : ab_Xq}, Rep I ad s → rec z 0 s = some o → (∀ I1, Rep I1 ad o → FrE ad I I1 → P (gW G I1) none) → ab_Gam d z [.ref (ad 2)] (gW G I) P X) (hrec1 : ∀ z, z ∈ [5017, 5018] → ∀ {x : Int32} {s o : Sx} {I : Nat → Nat → Int32} {P : ab_Pq} {X : ab_Xq}, Rep I ad s → rec z x s = some o → (∀ I1, Rep I1 ad o → FrE ad I I1 → P (gW G I1) none) → ab_Gam d z [.ref (ad 2), .int x] (gW G I) P X) (hd : 12 ≤ d)   {o : Sx} (ho : f_5014 rec s = some o) (h : ∀ I1, Rep I1 ad o → FrE ad I I1 → P (gW G I1) none) : ab_Gam (d + 1) 5014 [.ref (ad 2)] (gW G I) P X := by
  have h2 := h
  obtain ⟨e, rfl⟩ : ∃ e, d = e + 12 := ⟨d - 12, by omega⟩
  have hF : FrE ad I I := FrE_rfl
  unfold f_5014 at ho
  refine ab_enter (I := i5014) rfl (Nat.le_of_ble_eq_true rfl) (fun R hR => ?_)
  refine us_aload_n hR dX4_defStatement_0 rfl ?_
  refine us_getIx hR dX4_defStatement_1 fR_5_46 (ev_k2 hE) rfl (Rep_v hP 2 (by decide)) ?_
  refine us_istore_n hR dX4_defStatement_4 (Nat.le_of_ble_eq_true rfl) ?_
  refine us_aload_n hR dX4_defStatement_5 rfl ?_
  refine us_getIx hR dX4_defStatement_6 fR_5_59 (ev_k2 hE) rfl (Rep_v hP 4 (by decide)) ?_
  refine us_if_le hR dX4_defStatement_9 22 (by decide) (fun c1 => ?_) (fun c1 => ?_)
  · rw [if_pos c1] at ho
    refine us_aload_n hR dX4_defStatement_22 rfl ?_
    refine us_dup hR dX4_defStatement_23 rfl ?_
    refine us_getIx hR dX4_defStatement_24 fR_5_46 (ev_k2 hE) rfl (Rep_v hP 2 (by decide)) ?_
    refine us_iconstC hR dX4_defStatement_27 (c := 1) (by decide) ?_
    refine us_iadd hR dX4_defStatement_28 ?_
    refine us_putIx hE hP 2 (by decide) hR dX4_defStatement_29 fR_5_46 (Or.inl rfl) (ev_k2 hE) rfl rfl (fun I2 s2 hs2 hP2 hF2 => ?_)
    rw [← hs2, bS_eq] at ho
    have hF2 := hF.tr hF2
    refine us_aload_n hR dX4_defStatement_32 rfl ?_
    refine us_callV hR dX4_defStatement_33 (y := 5003) (by decide +kernel) (by decide) (J := i5003) rfl rfl rfl rfl (ev_k2 hE) rfl (Nat.le_of_ble_eq_true rfl) (Nat.zero_le _) (Nat.zero_le _) ?_
    refine sp_5003 hE hL hP2  ?_
    refine us_iconstC hR dX4_defStatement_36 (c := 4) (by decide) ?_
    refine us_icmp_eq hR dX4_defStatement_37 50 (by decide) (fun c4 => ?_) (fun c4 => ?_)
    · rw [if_pos c4] at ho
      refine us_aload_n hR dX4_defStatement_50 rfl ?_
      refine us_getR hR dX4_defStatement_51 fR_5_32 (ev_k2 hE) rfl hL.1 ?_
      refine us_aload_n hR dX4_defStatement_54 rfl ?_
      refine us_getR hR dX4_defStatement_55 fR_5_42 (ev_k2 hE) rfl hL.2 ?_
      refine us_getR hR dX4_defStatement_58 fR_5_163 (ev_k1 hE) rfl (ev_r_1_1 hE) ?_
      refine us_aload_n hR dX4_defStatement_61 rfl ?_
      refine us_getIx hR dX4_defStatement_62 fR_5_46 (ev_k2 hE) rfl (Rep_v hP2 2 (by decide)) ?_
      refine us_callV hR dX4_defStatement_65 (y := 6002) (by decide +kernel) (by decide) (J := i6002) rfl rfl rfl rfl (ev_rk hE (by decide)) rfl (Nat.le_of_ble_eq_true rfl) (Nat.zero_le _) (Nat.zero_le _) ?_
      refine cR_get hE hP2 1 (by decide) ?_
      refine us_callV hR dX4_defStatement_68 (y := 4012) (by decide +kernel) (by decide) (J := i4012) rfl rfl rfl rfl (ev_k0 hE) rfl (Nat.le_of_ble_eq_true rfl) (Nat.zero_le _) (Nat.zero_le _) ?_
      refine sp_4012 hE hP2  ?_
      refine us_iconstC hR dX4_defStatement_71 (c := (-1)) (by decide) ?_
      refine us_icmp_eq hR dX4_defStatement_72 86 (by decide) (fun c7 => ?_) (fun c7 => ?_)
      · rw [if_pos c7] at ho
        refine us_aload_n hR dX4_defStatement_86 rfl ?_
        refine us_getR hR dX4_defStatement_87 fR_5_32 (ev_k2 hE) rfl hL.1 ?_
        refine us_aload_n hR dX4_defStatement_90 rfl ?_
        refine us_getR hR dX4_defStatement_91 fR_5_42 (ev_k2 hE) rfl hL.2 ?_
        refine us_getR hR dX4_defStatement_94 fR_5_163 (ev_k1 hE) rfl (ev_r_1_1 hE) ?_
        refine us_aload_n hR dX4_defStatement_97 rfl ?_
        refine us_getIx hR dX4_defStatement_98 fR_5_46 (ev_k2 hE) rfl (Rep_v hP2 2 (by decide)) ?_
        refine us_callV hR dX4_defStatement_101 (y := 6002) (by decide +kernel) (by decide) (J := i6002) rfl rfl rfl rfl (ev_rk hE (by decide)) rfl (Nat.le_of_ble_eq_true rfl) (Nat.zero_le _) (Nat.zero_le _) ?_
        refine cR_get hE hP2 1 (by decide) ?_
        refine us_callV hR dX4_defStatement_104 (y := 4010) (by decide +kernel) (by decide) (J := i4010) rfl rfl rfl rfl (ev_k0 hE) rfl (Nat.le_of_ble_eq_true rfl) (Nat.zero_le _) (Nat.zero_le _) ?_
        refine sp_4010 hE hP2  (fun I9 q9 hs9 hP9 hF9 => ?_)
        rw [← hs9] at ho
        obtain ⟨s9, r9⟩ := q9
        rw [bT_eq] at ho
        have hF9 := hF2.tr hF9
        refine us_istore_n hR dX4_defStatement_107 (Nat.le_of_ble_eq_true rfl) ?_
        refine us_aload_n hR dX4_defStatement_108 rfl ?_
        refine us_getR hR dX4_defStatement_109 fR_5_42 (ev_k2 hE) rfl hL.2 ?_
        refine us_getR hR dX4_defStatement_112 fR_5_90 (ev_k1 hE) rfl (ev_r_1_0 hE) ?_
        refine us_aload_n hR dX4_defStatement_115 rfl ?_
        refine us_getIx hR dX4_defStatement_116 fR_5_46 (ev_k2 hE) rfl (Rep_v hP9 2 (by decide)) ?_
        refine us_bipushC hR dX4_defStatement_119 (c := 35) (by decide) ?_
        refine us_callV hR dX4_defStatement_121 (y := 6003) (by decide +kernel) (by decide) (J := i6003) rfl rfl rfl rfl (ev_rk hE (by decide)) rfl (Nat.le_of_ble_eq_true rfl) (Nat.zero_le _) (Nat.zero_le _) ?_
        refine cR_set hE hP9 0 (by decide) (fun I10 s10 hs10 hP10 hF10 => ?_)
        rw [← hs10, bS_eq] at ho
        have hF10 := hF9.tr hF10
        refine us_aload_n hR dX4_defStatement_124 rfl ?_
        refine us_dup hR dX4_defStatement_125 rfl ?_
        refine us_getIx hR dX4_defStatement_126 fR_5_46 (ev_k2 hE) rfl (Rep_v hP10 2 (by decide)) ?_
        refine us_iconstC hR dX4_defStatement_129 (c := 1) (by decide) ?_
        refine us_iadd hR dX4_defStatement_130 ?_
        refine us_putIx hE hP10 2 (by decide) hR dX4_defStatement_131 fR_5_46 (Or.inl rfl) (ev_k2 hE) rfl rfl (fun I11 s11 hs11 hP11 hF11 => ?_)
        rw [← hs11, bS_eq] at ho
        have hF11 := hF10.tr hF11
        refine us_aload_n hR dX4_defStatement_134 rfl ?_
        refine us_getR hR dX4_defStatement_135 fR_5_32 (ev_k2 hE) rfl hL.1 ?_
        refine us_bipushC hR dX4_defStatement_138 (c := 13) (by decide) ?_
        refine us_iconstC hR dX4_defStatement_140 (c := 0) (by decide) ?_
        refine us_callV hR dX4_defStatement_141 (y := 4005) (by decide +kernel) (by decide) (J := i4005) rfl rfl rfl rfl (ev_k0 hE) rfl (Nat.le_of_ble_eq_true rfl) (Nat.zero_le _) (Nat.zero_le _) ?_
        refine sp_4005 hE hP11  (fun I12 q12 hs12 hP12 hF12 => ?_)
        rw [← hs12] at ho
        obtain ⟨s12, r12⟩ := q12
        rw [bT_eq] at ho
        have hF12 := hF11.tr hF12
        refine us_istore_n hR dX4_defStatement_144 (Nat.le_of_ble_eq_true rfl) ?_
        refine us_aload_n hR dX4_defStatement_145 rfl ?_
        refine us_callV hR dX4_defStatement_146 (y := 5015) (by decide +kernel) (by decide) (J := i5015) rfl rfl rfl rfl (ev_k2 hE) rfl (Nat.le_of_ble_eq_true rfl) (Nat.zero_le _) (Nat.zero_le _) ?_
        obtain ⟨s13, hs13⟩ := bOv_ex ho
        replace ho := bOv_go ho hs13
        refine sp_5015 hE hL hP12  hs13 (fun I13 hP13 hF13 => ?_)
        have hF13 := hF12.tr hF13
        refine us_aload_n hR dX4_defStatement_149 rfl ?_
        refine us_getR hR dX4_defStatement_150 fR_5_32 (ev_k2 hE) rfl hL.1 ?_
        refine us_iload_n hR dX4_defStatement_153 rfl ?_
        refine us_aload_n hR dX4_defStatement_154 rfl ?_
        refine us_getR hR dX4_defStatement_155 fR_5_20 (ev_k2 hE) rfl (ev_r_2_7 hE) ?_
        refine us_callV hR dX4_defStatement_158 (y := 6001) (by decide +kernel) (by decide) (J := i6001) rfl rfl rfl rfl (ev_rk hE (by decide)) rfl (Nat.le_of_ble_eq_true rfl) (Nat.zero_le _) (Nat.zero_le _) ?_
        refine cR_size hE hP13 14 (by decide) ?_
        refine us_aload_n hR dX4_defStatement_161 rfl ?_
        refine us_getIx hR dX4_defStatement_162 fR_5_46 (ev_k2 hE) rfl (Rep_v hP13 2 (by decide)) ?_
        refine us_aload_n hR dX4_defStatement_165 rfl ?_
        refine us_getR hR dX4_defStatement_166 fR_5_32 (ev_k2 hE) rfl hL.1 ?_
        refine us_callV hR dX4_defStatement_169 (y := 4006) (by decide +kernel) (by decide) (J := i4006) rfl rfl rfl rfl (ev_k0 hE) rfl (Nat.le_of_ble_eq_true rfl) (Nat.zero_le _) (Nat.zero_le _) ?_
        refine sp_4006 hE hP13  ?_
        refine us_callV hR dX4_defStatement_172 (y := 4011) (by decide +kernel) (by decide) (J := i4011) rfl rfl rfl rfl (ev_k0 hE) rfl (Nat.le_of_ble_eq_true rfl) (Nat.zero_le _) (Nat.zero_le _) ?_
        refine sp_4011 hE hP13  (fun I16 s16 hs16 hP16 hF16 => ?_)
        rw [← hs16, bS_eq] at ho
        have hF16 := hF13.tr hF16
        refine us_aload_n hR dX4_defStatement_175 rfl ?_
        refine us_iconstC hR dX4_defStatement_176 (c := 1) (by decide) ?_
        refine us_putIx hE hP16 5 (by decide) hR dX4_defStatement_177 fR_5_62 (Or.inl rfl) (ev_k2 hE) rfl rfl (fun I17 s17 hs17 hP17 hF17 => ?_)
        rw [← hs17, bS_eq] at ho
        have hF17 := hF16.tr hF17
        refine us_aload_n hR dX4_defStatement_180 rfl ?_
        refine us_iload_n hR dX4_defStatement_181 rfl ?_
        refine us_callV hR dX4_defStatement_182 (y := 5017) (by decide +kernel) (by decide) (J := i5017) rfl rfl rfl rfl (ev_k2 hE) rfl (Nat.le_of_ble_eq_true rfl) (Nat.zero_le _) (Nat.zero_le _) ?_
        obtain ⟨s18, hs18⟩ := bOv_ex ho
        replace ho := bOv_go ho hs18
        refine hrec1 5017 (by decide) hP17 hs18 (fun I18 hP18 hF18 => ?_)
        have hF18 := hF17.tr hF18
        refine us_aload_n hR dX4_defStatement_185 rfl ?_
        refine us_iconstC hR dX4_defStatement_186 (c := 0) (by decide) ?_
        refine us_putIx hE hP18 5 (by decide) hR dX4_defStatement_187 fR_5_62 (Or.inl rfl) (ev_k2 hE) rfl rfl (fun I19 s19 hs19 hP19 hF19 => ?_)
        rw [← hs19, bS_eq] at ho
        have hF19 := hF18.tr hF19
        refine us_aload_n hR dX4_defStatement_190 rfl ?_
        refine us_getR hR dX4_defStatement_191 fR_5_32 (ev_k2 hE) rfl hL.1 ?_
        refine us_iconstC hR dX4_defStatement_194 (c := 1) (by decide) ?_
        refine us_iconstC hR dX4_defStatement_195 (c := 0) (by decide) ?_
        refine us_callV hR dX4_defStatement_196 (y := 4005) (by decide +kernel) (by decide) (J := i4005) rfl rfl rfl rfl (ev_k0 hE) rfl (Nat.le_of_ble_eq_true rfl) (Nat.zero_le _) (Nat.zero_le _) ?_
        refine sp_4005 hE hP19  (fun I20 q20 hs20 hP20 hF20 => ?_)
        rw [← hs20] at ho
        obtain ⟨s20, r20⟩ := q20
        rw [bT_eq] at ho
        have hF20 := hF19.tr hF20
        refine us_pop hR dX4_defStatement_199 rfl ?_
        refine us_aload_n hR dX4_defStatement_200 rfl ?_
        refine us_getR hR dX4_defStatement_201 fR_5_32 (ev_k2 hE) rfl hL.1 ?_
        refine us_bipushC hR dX4_defStatement_204 (c := 16) (by decide) ?_
        refine us_iconstC hR dX4_defStatement_206 (c := 0) (by decide) ?_
        refine us_callV hR dX4_defStatement_207 (y := 4005) (by decide +kernel) (by decide) (J := i4005) rfl rfl rfl rfl (ev_k0 hE) rfl (Nat.le_of_ble_eq_true rfl) (Nat.zero_le _) (Nat.zero_le _) ?_
        refine sp_4005 hE hP20  (fun I21 q21 hs21 hP21 hF21 => ?_)
        rw [← hs21] at ho
        obtain ⟨s21, r21⟩ := q21
        rw [bT_eq] at ho
        have hF21 := hF20.tr hF21
        refine us_pop hR dX4_defStatement_210 rfl ?_
        refine us_aload_n hR dX4_defStatement_211 rfl ?_
        refine us_getR hR dX4_defStatement_212 fR_5_32 (ev_k2 hE) rfl hL.1 ?_
        refine us_iload_n hR dX4_defStatement_215 rfl ?_
        refine us_aload_n hR dX4_defStatement_216 rfl ?_
        refine us_getR hR dX4_defStatement_217 fR_5_32 (ev_k2 hE) rfl hL.1 ?_
        refine us_callV hR dX4_defStatement_220 (y := 4006) (by decide +kernel) (by decide) (J := i4006) rfl rfl rfl rfl (ev_k0 hE) rfl (Nat.le_of_ble_eq_true rfl) (Nat.zero_le _) (Nat.zero_le _) ?_
        refine sp_4006 hE hP21  ?_
        refine us_callV hR dX4_defStatement_223 (y := 4009) (by decide +kernel) (by decide) (J := i4009) rfl rfl rfl rfl (ev_k0 hE) rfl (Nat.le_of_ble_eq_true rfl) (Nat.zero_le _) (Nat.zero_le _) ?_
        refine sp_4009 hE hP21  (fun I23 s23 hs23 hP23 hF23 => ?_)
        rw [← hs23, bS_eq] at ho
        have hF23 := hF21.tr hF23
        refine us_aload_n hR dX4_defStatement_226 rfl ?_
        refine us_getR hR dX4_defStatement_227 fR_5_42 (ev_k2 hE) rfl hL.2 ?_
        refine us_getR hR dX4_defStatement_230 fR_5_163 (ev_k1 hE) rfl (ev_r_1_1 hE) ?_
        refine us_iload_n hR dX4_defStatement_233 rfl ?_
        refine us_aload_n hR dX4_defStatement_234 rfl ?_
        refine us_getIx hR dX4_defStatement_235 fR_5_46 (ev_k2 hE) rfl (Rep_v hP23 2 (by decide)) ?_
        refine us_callV hR dX4_defStatement_238 (y := 6003) (by decide +kernel) (by decide) (J := i6003) rfl rfl rfl rfl (ev_rk hE (by decide)) rfl (Nat.le_of_ble_eq_true rfl) (Nat.zero_le _) (Nat.zero_le _) ?_
        refine cR_set hE hP23 1 (by decide) (fun I24 s24 hs24 hP24 hF24 => ?_)
        rw [← hs24, bS_eq] at ho
        have hF24 := hF23.tr hF24
        refine us_vret hR dX4_defStatement_241 rfl ?_
        cases ho
        exact h2 _ hP24 hF24
      · rw [if_neg c7] at ho
        refine us_aload_n hR dX4_defStatement_75 rfl ?_
        refine us_bipushC hR dX4_defStatement_76 (c := 6) (by decide) ?_
        refine us_aload_n hR dX4_defStatement_78 rfl ?_
        refine us_getIx hR dX4_defStatement_79 fR_5_46 (ev_k2 hE) rfl (Rep_v hP2 2 (by decide)) ?_
        refine us_callV hR dX4_defStatement_82 (y := 5005) (by decide +kernel) (by decide) (J := i5005) rfl rfl rfl rfl (ev_k2 hE) rfl (Nat.le_of_ble_eq_true rfl) (Nat.zero_le _) (Nat.zero_le _) ?_
        refine sp_5005 hE hL hP2  (fun I25 s25 hs25 hP25 hF25 => ?_)
        rw [← hs25, bS_eq] at ho
        have hF25 := hF2.tr hF25
        refine us_vret hR dX4_defStatement_85 rfl ?_
        cases ho
        exact h2 _ hP25 hF25
    · rw [if_neg c4] at ho
      refine us_aload_n hR dX4_defStatement_40 rfl ?_
      refine us_iconstC hR dX4_defStatement_41 (c := 3) (by decide) ?_
      refine us_aload_n hR dX4_defStatement_42 rfl ?_
      refine us_getIx hR dX4_defStatement_43 fR_5_46 (ev_k2 hE) rfl (Rep_v hP2 2 (by decide)) ?_
      refine us_callV hR dX4_defStatement_46 (y := 5005) (by decide +kernel) (by decide) (J := i5005) rfl rfl rfl rfl (ev_k2 hE) rfl (Nat.le_of_ble_eq_true rfl) (Nat.zero_le _) (Nat.zero_le _) ?_
      refine sp_5005 hE hL hP2  (fun I26 s26 hs26 hP26 hF26 => ?_)
      rw [← hs26, bS_eq] at ho
      have hF26 := hF2.tr hF26
      refine us_vret hR dX4_defStatement_49 rfl ?_
      cases ho
      exact h2 _ hP26 hF26
  · rw [if_neg c1] at ho
    refine us_aload_n hR dX4_defStatement_12 rfl ?_
    refine us_iconstC hR dX4_defStatement_13 (c := 3) (by decide) ?_
    refine us_aload_n hR dX4_defStatement_14 rfl ?_
    refine us_getIx hR dX4_defStatement_15 fR_5_46 (ev_k2 hE) rfl (Rep_v hP 2 (by decide)) ?_
    refine us_callV hR dX4_defStatement_18 (y := 5005) (by decide +kernel) (by decide) (J := i5005) rfl rfl rfl rfl (ev_k2 hE) rfl (Nat.le_of_ble_eq_true rfl) (Nat.zero_le _) (Nat.zero_le _) ?_
    refine sp_5005 hE hL hP  (fun I27 s27 hs27 hP27 hF27 => ?_)
    rw [← hs27, bS_eq] at ho
    have hF27 := hF.tr hF27
    refine us_vret hR dX4_defStatement_21 rfl ?_
    cases ho
    exact h2 _ hP27 hF27
def f_5019 (rec : Nat → Int32 → Sx → Option Sx)  (s : Sx) : Option Sx :=
  if (f_5003 s) = 3 then
    bT (f_4005 1 (xg (s.1 1) (s.2 2)) s) fun s4 r4 =>
    bS (sV s4 2 ((s4.2 2) + 1)) fun s5 =>
    some s5
  else if (f_5003 s) = 4 then
    if (xg (s.1 0) ((s.2 2) + 1)) = 28 then
      bOv (rec 5021 0 s) fun s11 =>
      some s11
    else
      bT (f_5022 (f_5004 s) s) fun s9 r9 =>
      bT (f_4005 2 r9 s9) fun s10 r10 =>
      some s10
  else if (f_5003 s) = 9 then
    bT (f_4005 5 0 s) fun s12 r12 =>
    bS (sV s12 2 ((s12.2 2) + 1)) fun s13 =>
    some s13
  else if (f_5003 s) = 13 then
    bS (sB s 0 (xset (s.1 0) (s.2 2) 36)) fun s14 =>
    bOv (rec 5020 0 s14) fun s15 =>
    some s15
  else if (f_5003 s) = 25 then
    bOv (rec 5020 0 s) fun s16 =>
    some s16
  else if (f_5003 s) = 26 then
    bOv (rec 5020 0 s) fun s17 =>
    some s17
  else if (f_5003 s) = 28 then
    bS (f_5007 s) fun s18 =>
    bOv (rec 5018 1 s18) fun s19 =>
    bS (f_5006 29 s19) fun s20 =>
    bS (sV s20 4 ((s20.2 4) - 1)) fun s21 =>
    some s21
  else
    bS (f_5005 3 (s.2 2) s) fun s22 =>
    some s22
theorem sp_5019 {d : Nat} {G : ab_G} {ad : Nat → Nat} {I : Nat → Nat → Int32} {s : Sx} {P : ab_Pq} {X : ab_Xq} (hE : EV G ad) (hL : LR G ad) (hP : Rep I ad s) {rec : Nat → Int32 → Sx → Option Sx} (hrec0 : ∀ z, z ∈ [5008, 5009, 5010, 5011, 5012, 5013, 5014, 5019, 5020, 5021] → ∀ {s o : Sx} {I : Nat → Nat → Int32} {P : ab_Pq} {X : ab_Xq}, Rep I ad s → rec z 0 s = some o → (∀ I1, Rep I1 ad o → FrE ad I I1 → P (gW G I1) none) → ab_Gam d z [.ref (ad 2)] (gW G I) P X) (hrec1 : ∀ z, z ∈ [5017, 5018] → ∀ {x : Int32} {s o : Sx} {I : Nat → Nat → Int32} {P : ab_Pq} {X : ab_Xq}, Rep I ad s → rec z x s = some o → (∀ I1, Rep I1 ad o → FrE ad I I1 → P (gW G I1) none) → ab_Gam d z [.ref (ad 2), .int x] (gW G I) P X) (hd : 12 ≤ d)   {o : Sx} (ho : f_5019 rec s = some o) (h : ∀ I1, Rep I1 ad o → FrE ad I I1 → P (gW G I1) none) : ab_Gam (d + 1) 5019 [.ref (ad 2)] (gW G I) P X := by
  have h2 := h
  obtain ⟨e, rfl⟩ : ∃ e, d = e + 12 := ⟨d - 12, by omega⟩
  have hF : FrE ad I I := FrE_rfl
  unfold f_5019 at ho
  refine ab_enter (I := i5019) rfl (Nat.le_of_ble_eq_true rfl) (fun R hR => ?_)
  refine us_aload_n hR dX4_operand_0 rfl ?_
  refine us_callV hR dX4_operand_1 (y := 5003) (by decide +kernel) (by decide) (J := i5003) rfl rfl rfl rfl (ev_k2 hE) rfl (Nat.le_of_ble_eq_true rfl) (Nat.zero_le _) (Nat.zero_le _) ?_
  refine sp_5003 hE hL hP  ?_
  refine us_lsw hR dX4_operand_4 (by decide) ⟨fun c2 => ⟨by decide, ?_⟩, fun c2_0 => ⟨fun c2 => ⟨by decide, ?_⟩, fun c2_1 => ⟨fun c2 => ⟨by decide, ?_⟩, fun c2_2 => ⟨fun c2 => ⟨by decide, ?_⟩, fun c2_3 => ⟨fun c2 => ⟨by decide, ?_⟩, fun c2_4 => ⟨fun c2 => ⟨by decide, ?_⟩, fun c2_5 => ⟨fun c2 => ⟨by decide, ?_⟩, fun c2_6 => ⟨by decide, ?_⟩⟩⟩⟩⟩⟩⟩⟩
  · rw [if_pos (i_sw (v := 3) c2)] at ho
    refine us_aload_n hR dX4_operand_102 rfl ?_
    refine us_getR hR dX4_operand_103 fR_5_32 (ev_k2 hE) rfl hL.1 ?_
    refine us_iconstC hR dX4_operand_106 (c := 1) (by decide) ?_
    refine us_aload_n hR dX4_operand_107 rfl ?_
    refine us_getR hR dX4_operand_108 fR_5_42 (ev_k2 hE) rfl hL.2 ?_
    refine us_getR hR dX4_operand_111 fR_5_163 (ev_k1 hE) rfl (ev_r_1_1 hE) ?_
    refine us_aload_n hR dX4_operand_114 rfl ?_
    refine us_getIx hR dX4_operand_115 fR_5_46 (ev_k2 hE) rfl (Rep_v hP 2 (by decide)) ?_
    refine us_callV hR dX4_operand_118 (y := 6002) (by decide +kernel) (by decide) (J := i6002) rfl rfl rfl rfl (ev_rk hE (by decide)) rfl (Nat.le_of_ble_eq_true rfl) (Nat.zero_le _) (Nat.zero_le _) ?_
    refine cR_get hE hP 1 (by decide) ?_
    refine us_callV hR dX4_operand_121 (y := 4005) (by decide +kernel) (by decide) (J := i4005) rfl rfl rfl rfl (ev_k0 hE) rfl (Nat.le_of_ble_eq_true rfl) (Nat.zero_le _) (Nat.zero_le _) ?_
    refine sp_4005 hE hP  (fun I4 q4 hs4 hP4 hF4 => ?_)
    rw [← hs4] at ho
    obtain ⟨s4, r4⟩ := q4
    rw [bT_eq] at ho
    have hF4 := hF.tr hF4
    refine us_pop hR dX4_operand_124 rfl ?_
    refine us_aload_n hR dX4_operand_125 rfl ?_
    refine us_dup hR dX4_operand_126 rfl ?_
    refine us_getIx hR dX4_operand_127 fR_5_46 (ev_k2 hE) rfl (Rep_v hP4 2 (by decide)) ?_
    refine us_iconstC hR dX4_operand_130 (c := 1) (by decide) ?_
    refine us_iadd hR dX4_operand_131 ?_
    refine us_putIx hE hP4 2 (by decide) hR dX4_operand_132 fR_5_46 (Or.inl rfl) (ev_k2 hE) rfl rfl (fun I5 s5 hs5 hP5 hF5 => ?_)
    rw [← hs5, bS_eq] at ho
    have hF5 := hF4.tr hF5
    refine us_goto hR dX4_operand_135 246 (by decide) ?_
    refine us_vret hR dX4_operand_246 rfl ?_
    cases ho
    exact h2 _ hP5 hF5
  · rw [if_neg (i_sw_x (v := 4) (w := 3) c2 (by decide)), if_pos (i_sw (v := 4) c2)] at ho
    refine us_aload_n hR dX4_operand_189 rfl ?_
    refine us_getR hR dX4_operand_190 fR_5_42 (ev_k2 hE) rfl hL.2 ?_
    refine us_getR hR dX4_operand_193 fR_5_90 (ev_k1 hE) rfl (ev_r_1_0 hE) ?_
    refine us_aload_n hR dX4_operand_196 rfl ?_
    refine us_getIx hR dX4_operand_197 fR_5_46 (ev_k2 hE) rfl (Rep_v hP 2 (by decide)) ?_
    refine us_iconstC hR dX4_operand_200 (c := 1) (by decide) ?_
    refine us_iadd hR dX4_operand_201 ?_
    refine us_callV hR dX4_operand_202 (y := 6002) (by decide +kernel) (by decide) (J := i6002) rfl rfl rfl rfl (ev_rk hE (by decide)) rfl (Nat.le_of_ble_eq_true rfl) (Nat.zero_le _) (Nat.zero_le _) ?_
    refine cR_get hE hP 0 (by decide) ?_
    refine us_bipushC hR dX4_operand_205 (c := 28) (by decide) ?_
    refine us_icmp_ne hR dX4_operand_207 217 (by decide) (fun c7 => ?_) (fun c7 => ?_)
    · rw [if_neg c7] at ho
      refine us_aload_n hR dX4_operand_217 rfl ?_
      refine us_getR hR dX4_operand_218 fR_5_32 (ev_k2 hE) rfl hL.1 ?_
      refine us_iconstC hR dX4_operand_221 (c := 2) (by decide) ?_
      refine us_aload_n hR dX4_operand_222 rfl ?_
      refine us_aload_n hR dX4_operand_223 rfl ?_
      refine us_callV hR dX4_operand_224 (y := 5004) (by decide +kernel) (by decide) (J := i5004) rfl rfl rfl rfl (ev_k2 hE) rfl (Nat.le_of_ble_eq_true rfl) (Nat.zero_le _) (Nat.zero_le _) ?_
      refine sp_5004 hE hL hP  ?_
      refine us_callV hR dX4_operand_227 (y := 5022) (by decide +kernel) (by decide) (J := i5022) rfl rfl rfl rfl (ev_k2 hE) rfl (Nat.le_of_ble_eq_true rfl) (Nat.zero_le _) (Nat.zero_le _) ?_
      refine sp_5022 hE hL hP (f_names_lt _) (fun I9 q9 hs9 hP9 hF9 => ?_)
      rw [← hs9] at ho
      obtain ⟨s9, r9⟩ := q9
      rw [bT_eq] at ho
      have hF9 := hF.tr hF9
      refine us_callV hR dX4_operand_230 (y := 4005) (by decide +kernel) (by decide) (J := i4005) rfl rfl rfl rfl (ev_k0 hE) rfl (Nat.le_of_ble_eq_true rfl) (Nat.zero_le _) (Nat.zero_le _) ?_
      refine sp_4005 hE hP9  (fun I10 q10 hs10 hP10 hF10 => ?_)
      rw [← hs10] at ho
      obtain ⟨s10, r10⟩ := q10
      rw [bT_eq] at ho
      have hF10 := hF9.tr hF10
      refine us_pop hR dX4_operand_233 rfl ?_
      refine us_goto hR dX4_operand_234 246 (by decide) ?_
      refine us_vret hR dX4_operand_246 rfl ?_
      cases ho
      exact h2 _ hP10 hF10
    · rw [if_pos c7] at ho
      refine us_aload_n hR dX4_operand_210 rfl ?_
      refine us_callV hR dX4_operand_211 (y := 5021) (by decide +kernel) (by decide) (J := i5021) rfl rfl rfl rfl (ev_k2 hE) rfl (Nat.le_of_ble_eq_true rfl) (Nat.zero_le _) (Nat.zero_le _) ?_
      obtain ⟨s11, hs11⟩ := bOv_ex ho
      replace ho := bOv_go ho hs11
      refine hrec0 5021 (by decide) hP hs11 (fun I11 hP11 hF11 => ?_)
      have hF11 := hF.tr hF11
      refine us_goto hR dX4_operand_214 246 (by decide) ?_
      refine us_vret hR dX4_operand_246 rfl ?_
      cases ho
      exact h2 _ hP11 hF11
  · rw [if_neg (i_sw_x (v := 9) (w := 3) c2 (by decide)), if_neg (i_sw_x (v := 9) (w := 4) c2 (by decide)), if_pos (i_sw (v := 9) c2)] at ho
    refine us_aload_n hR dX4_operand_138 rfl ?_
    refine us_getR hR dX4_operand_139 fR_5_32 (ev_k2 hE) rfl hL.1 ?_
    refine us_iconstC hR dX4_operand_142 (c := 5) (by decide) ?_
    refine us_iconstC hR dX4_operand_143 (c := 0) (by decide) ?_
    refine us_callV hR dX4_operand_144 (y := 4005) (by decide +kernel) (by decide) (J := i4005) rfl rfl rfl rfl (ev_k0 hE) rfl (Nat.le_of_ble_eq_true rfl) (Nat.zero_le _) (Nat.zero_le _) ?_
    refine sp_4005 hE hP  (fun I12 q12 hs12 hP12 hF12 => ?_)
    rw [← hs12] at ho
    obtain ⟨s12, r12⟩ := q12
    rw [bT_eq] at ho
    have hF12 := hF.tr hF12
    refine us_pop hR dX4_operand_147 rfl ?_
    refine us_aload_n hR dX4_operand_148 rfl ?_
    refine us_dup hR dX4_operand_149 rfl ?_
    refine us_getIx hR dX4_operand_150 fR_5_46 (ev_k2 hE) rfl (Rep_v hP12 2 (by decide)) ?_
    refine us_iconstC hR dX4_operand_153 (c := 1) (by decide) ?_
    refine us_iadd hR dX4_operand_154 ?_
    refine us_putIx hE hP12 2 (by decide) hR dX4_operand_155 fR_5_46 (Or.inl rfl) (ev_k2 hE) rfl rfl (fun I13 s13 hs13 hP13 hF13 => ?_)
    rw [← hs13, bS_eq] at ho
    have hF13 := hF12.tr hF13
    refine us_goto hR dX4_operand_158 246 (by decide) ?_
    refine us_vret hR dX4_operand_246 rfl ?_
    cases ho
    exact h2 _ hP13 hF13
  · rw [if_neg (i_sw_x (v := 13) (w := 3) c2 (by decide)), if_neg (i_sw_x (v := 13) (w := 4) c2 (by decide)), if_neg (i_sw_x (v := 13) (w := 9) c2 (by decide)), if_pos (i_sw (v := 13) c2)] at ho
    refine us_aload_n hR dX4_operand_72 rfl ?_
    refine us_getR hR dX4_operand_73 fR_5_42 (ev_k2 hE) rfl hL.2 ?_
    refine us_getR hR dX4_operand_76 fR_5_90 (ev_k1 hE) rfl (ev_r_1_0 hE) ?_
    refine us_aload_n hR dX4_operand_79 rfl ?_
    refine us_getIx hR dX4_operand_80 fR_5_46 (ev_k2 hE) rfl (Rep_v hP 2 (by decide)) ?_
    refine us_bipushC hR dX4_operand_83 (c := 36) (by decide) ?_
    refine us_callV hR dX4_operand_85 (y := 6003) (by decide +kernel) (by decide) (J := i6003) rfl rfl rfl rfl (ev_rk hE (by decide)) rfl (Nat.le_of_ble_eq_true rfl) (Nat.zero_le _) (Nat.zero_le _) ?_
    refine cR_set hE hP 0 (by decide) (fun I14 s14 hs14 hP14 hF14 => ?_)
    rw [← hs14, bS_eq] at ho
    have hF14 := hF.tr hF14
    refine us_aload_n hR dX4_operand_88 rfl ?_
    refine us_callV hR dX4_operand_89 (y := 5020) (by decide +kernel) (by decide) (J := i5020) rfl rfl rfl rfl (ev_k2 hE) rfl (Nat.le_of_ble_eq_true rfl) (Nat.zero_le _) (Nat.zero_le _) ?_
    obtain ⟨s15, hs15⟩ := bOv_ex ho
    replace ho := bOv_go ho hs15
    refine hrec0 5020 (by decide) hP14 hs15 (fun I15 hP15 hF15 => ?_)
    have hF15 := hF14.tr hF15
    refine us_goto hR dX4_operand_92 246 (by decide) ?_
    refine us_vret hR dX4_operand_246 rfl ?_
    cases ho
    exact h2 _ hP15 hF15
  · rw [if_neg (i_sw_x (v := 25) (w := 3) c2 (by decide)), if_neg (i_sw_x (v := 25) (w := 4) c2 (by decide)), if_neg (i_sw_x (v := 25) (w := 9) c2 (by decide)), if_neg (i_sw_x (v := 25) (w := 13) c2 (by decide)), if_pos (i_sw (v := 25) c2)] at ho
    refine us_aload_n hR dX4_operand_95 rfl ?_
    refine us_callV hR dX4_operand_96 (y := 5020) (by decide +kernel) (by decide) (J := i5020) rfl rfl rfl rfl (ev_k2 hE) rfl (Nat.le_of_ble_eq_true rfl) (Nat.zero_le _) (Nat.zero_le _) ?_
    obtain ⟨s16, hs16⟩ := bOv_ex ho
    replace ho := bOv_go ho hs16
    refine hrec0 5020 (by decide) hP hs16 (fun I16 hP16 hF16 => ?_)
    have hF16 := hF.tr hF16
    refine us_goto hR dX4_operand_99 246 (by decide) ?_
    refine us_vret hR dX4_operand_246 rfl ?_
    cases ho
    exact h2 _ hP16 hF16
  · rw [if_neg (i_sw_x (v := 26) (w := 3) c2 (by decide)), if_neg (i_sw_x (v := 26) (w := 4) c2 (by decide)), if_neg (i_sw_x (v := 26) (w := 9) c2 (by decide)), if_neg (i_sw_x (v := 26) (w := 13) c2 (by decide)), if_neg (i_sw_x (v := 26) (w := 25) c2 (by decide)), if_pos (i_sw (v := 26) c2)] at ho
    refine us_aload_n hR dX4_operand_95 rfl ?_
    refine us_callV hR dX4_operand_96 (y := 5020) (by decide +kernel) (by decide) (J := i5020) rfl rfl rfl rfl (ev_k2 hE) rfl (Nat.le_of_ble_eq_true rfl) (Nat.zero_le _) (Nat.zero_le _) ?_
    obtain ⟨s17, hs17⟩ := bOv_ex ho
    replace ho := bOv_go ho hs17
    refine hrec0 5020 (by decide) hP hs17 (fun I17 hP17 hF17 => ?_)
    have hF17 := hF.tr hF17
    refine us_goto hR dX4_operand_99 246 (by decide) ?_
    refine us_vret hR dX4_operand_246 rfl ?_
    cases ho
    exact h2 _ hP17 hF17
  · rw [if_neg (i_sw_x (v := 28) (w := 3) c2 (by decide)), if_neg (i_sw_x (v := 28) (w := 4) c2 (by decide)), if_neg (i_sw_x (v := 28) (w := 9) c2 (by decide)), if_neg (i_sw_x (v := 28) (w := 13) c2 (by decide)), if_neg (i_sw_x (v := 28) (w := 25) c2 (by decide)), if_neg (i_sw_x (v := 28) (w := 26) c2 (by decide)), if_pos (i_sw (v := 28) c2)] at ho
    refine us_aload_n hR dX4_operand_161 rfl ?_
    refine us_callV hR dX4_operand_162 (y := 5007) (by decide +kernel) (by decide) (J := i5007) rfl rfl rfl rfl (ev_k2 hE) rfl (Nat.le_of_ble_eq_true rfl) (Nat.zero_le _) (Nat.zero_le _) ?_
    refine sp_5007 hE hL hP  (fun I18 s18 hs18 hP18 hF18 => ?_)
    rw [← hs18, bS_eq] at ho
    have hF18 := hF.tr hF18
    refine us_aload_n hR dX4_operand_165 rfl ?_
    refine us_iconstC hR dX4_operand_166 (c := 1) (by decide) ?_
    refine us_callV hR dX4_operand_167 (y := 5018) (by decide +kernel) (by decide) (J := i5018) rfl rfl rfl rfl (ev_k2 hE) rfl (Nat.le_of_ble_eq_true rfl) (Nat.zero_le _) (Nat.zero_le _) ?_
    obtain ⟨s19, hs19⟩ := bOv_ex ho
    replace ho := bOv_go ho hs19
    refine hrec1 5018 (by decide) hP18 hs19 (fun I19 hP19 hF19 => ?_)
    have hF19 := hF18.tr hF19
    refine us_aload_n hR dX4_operand_170 rfl ?_
    refine us_bipushC hR dX4_operand_171 (c := 29) (by decide) ?_
    refine us_callV hR dX4_operand_173 (y := 5006) (by decide +kernel) (by decide) (J := i5006) rfl rfl rfl rfl (ev_k2 hE) rfl (Nat.le_of_ble_eq_true rfl) (Nat.zero_le _) (Nat.zero_le _) ?_
    refine sp_5006 hE hL hP19  (fun I20 s20 hs20 hP20 hF20 => ?_)
    rw [← hs20, bS_eq] at ho
    have hF20 := hF19.tr hF20
    refine us_aload_n hR dX4_operand_176 rfl ?_
    refine us_dup hR dX4_operand_177 rfl ?_
    refine us_getIx hR dX4_operand_178 fR_5_59 (ev_k2 hE) rfl (Rep_v hP20 4 (by decide)) ?_
    refine us_iconstC hR dX4_operand_181 (c := 1) (by decide) ?_
    refine us_isub hR dX4_operand_182 ?_
    refine us_putIx hE hP20 4 (by decide) hR dX4_operand_183 fR_5_59 (Or.inl rfl) (ev_k2 hE) rfl rfl (fun I21 s21 hs21 hP21 hF21 => ?_)
    rw [← hs21, bS_eq] at ho
    have hF21 := hF20.tr hF21
    refine us_goto hR dX4_operand_186 246 (by decide) ?_
    refine us_vret hR dX4_operand_246 rfl ?_
    cases ho
    exact h2 _ hP21 hF21
  · rw [if_neg (i_sw_n (v := 3) c2_0), if_neg (i_sw_n (v := 4) c2_1), if_neg (i_sw_n (v := 9) c2_2), if_neg (i_sw_n (v := 13) c2_3), if_neg (i_sw_n (v := 25) c2_4), if_neg (i_sw_n (v := 26) c2_5), if_neg (i_sw_n (v := 28) c2_6)] at ho
    refine us_aload_n hR dX4_operand_237 rfl ?_
    refine us_iconstC hR dX4_operand_238 (c := 3) (by decide) ?_
    refine us_aload_n hR dX4_operand_239 rfl ?_
    refine us_getIx hR dX4_operand_240 fR_5_46 (ev_k2 hE) rfl (Rep_v hP 2 (by decide)) ?_
    refine us_callV hR dX4_operand_243 (y := 5005) (by decide +kernel) (by decide) (J := i5005) rfl rfl rfl rfl (ev_k2 hE) rfl (Nat.le_of_ble_eq_true rfl) (Nat.zero_le _) (Nat.zero_le _) ?_
    refine sp_5005 hE hL hP  (fun I22 s22 hs22 hP22 hF22 => ?_)
    rw [← hs22, bS_eq] at ho
    have hF22 := hF.tr hF22
    refine us_vret hR dX4_operand_246 rfl ?_
    cases ho
    exact h2 _ hP22 hF22
def f_5020 (rec : Nat → Int32 → Sx → Option Sx)  (s : Sx) : Option Sx :=
  bS (f_5007 s) fun s2 =>
  bOv (rec 5019 0 s2) fun s3 =>
  bS (sV s3 4 ((s3.2 4) - 1)) fun s4 =>
  bT (f_4005 8 (f_5003 s) s4) fun s5 r5 =>
  some s5
theorem sp_5020 {d : Nat} {G : ab_G} {ad : Nat → Nat} {I : Nat → Nat → Int32} {s : Sx} {P : ab_Pq} {X : ab_Xq} (hE : EV G ad) (hL : LR G ad) (hP : Rep I ad s) {rec : Nat → Int32 → Sx → Option Sx} (hrec0 : ∀ z, z ∈ [5008, 5009, 5010, 5011, 5012, 5013, 5014, 5019, 5020, 5021] → ∀ {s o : Sx} {I : Nat → Nat → Int32} {P : ab_Pq} {X : ab_Xq}, Rep I ad s → rec z 0 s = some o → (∀ I1, Rep I1 ad o → FrE ad I I1 → P (gW G I1) none) → ab_Gam d z [.ref (ad 2)] (gW G I) P X) (hrec1 : ∀ z, z ∈ [5017, 5018] → ∀ {x : Int32} {s o : Sx} {I : Nat → Nat → Int32} {P : ab_Pq} {X : ab_Xq}, Rep I ad s → rec z x s = some o → (∀ I1, Rep I1 ad o → FrE ad I I1 → P (gW G I1) none) → ab_Gam d z [.ref (ad 2), .int x] (gW G I) P X) (hd : 12 ≤ d)   {o : Sx} (ho : f_5020 rec s = some o) (h : ∀ I1, Rep I1 ad o → FrE ad I I1 → P (gW G I1) none) : ab_Gam (d + 1) 5020 [.ref (ad 2)] (gW G I) P X := by
  have h2 := h
  obtain ⟨e, rfl⟩ : ∃ e, d = e + 12 := ⟨d - 12, by omega⟩
  have hF : FrE ad I I := FrE_rfl
  unfold f_5020 at ho
  refine ab_enter (I := i5020) rfl (Nat.le_of_ble_eq_true rfl) (fun R hR => ?_)
  refine us_aload_n hR dX4_markedOperand_0 rfl ?_
  refine us_callV hR dX4_markedOperand_1 (y := 5003) (by decide +kernel) (by decide) (J := i5003) rfl rfl rfl rfl (ev_k2 hE) rfl (Nat.le_of_ble_eq_true rfl) (Nat.zero_le _) (Nat.zero_le _) ?_
  refine sp_5003 hE hL hP  ?_
  refine us_istore_n hR dX4_markedOperand_4 (Nat.le_of_ble_eq_true rfl) ?_
  refine us_aload_n hR dX4_markedOperand_5 rfl ?_
  refine us_callV hR dX4_markedOperand_6 (y := 5007) (by decide +kernel) (by decide) (J := i5007) rfl rfl rfl rfl (ev_k2 hE) rfl (Nat.le_of_ble_eq_true rfl) (Nat.zero_le _) (Nat.zero_le _) ?_
  refine sp_5007 hE hL hP  (fun I2 s2 hs2 hP2 hF2 => ?_)
  rw [← hs2, bS_eq] at ho
  have hF2 := hF.tr hF2
  refine us_aload_n hR dX4_markedOperand_9 rfl ?_
  refine us_callV hR dX4_markedOperand_10 (y := 5019) (by decide +kernel) (by decide) (J := i5019) rfl rfl rfl rfl (ev_k2 hE) rfl (Nat.le_of_ble_eq_true rfl) (Nat.zero_le _) (Nat.zero_le _) ?_
  obtain ⟨s3, hs3⟩ := bOv_ex ho
  replace ho := bOv_go ho hs3
  refine hrec0 5019 (by decide) hP2 hs3 (fun I3 hP3 hF3 => ?_)
  have hF3 := hF2.tr hF3
  refine us_aload_n hR dX4_markedOperand_13 rfl ?_
  refine us_dup hR dX4_markedOperand_14 rfl ?_
  refine us_getIx hR dX4_markedOperand_15 fR_5_59 (ev_k2 hE) rfl (Rep_v hP3 4 (by decide)) ?_
  refine us_iconstC hR dX4_markedOperand_18 (c := 1) (by decide) ?_
  refine us_isub hR dX4_markedOperand_19 ?_
  refine us_putIx hE hP3 4 (by decide) hR dX4_markedOperand_20 fR_5_59 (Or.inl rfl) (ev_k2 hE) rfl rfl (fun I4 s4 hs4 hP4 hF4 => ?_)
  rw [← hs4, bS_eq] at ho
  have hF4 := hF3.tr hF4
  refine us_aload_n hR dX4_markedOperand_23 rfl ?_
  refine us_getR hR dX4_markedOperand_24 fR_5_32 (ev_k2 hE) rfl hL.1 ?_
  refine us_bipushC hR dX4_markedOperand_27 (c := 8) (by decide) ?_
  refine us_iload_n hR dX4_markedOperand_29 rfl ?_
  refine us_callV hR dX4_markedOperand_30 (y := 4005) (by decide +kernel) (by decide) (J := i4005) rfl rfl rfl rfl (ev_k0 hE) rfl (Nat.le_of_ble_eq_true rfl) (Nat.zero_le _) (Nat.zero_le _) ?_
  refine sp_4005 hE hP4  (fun I5 q5 hs5 hP5 hF5 => ?_)
  rw [← hs5] at ho
  obtain ⟨s5, r5⟩ := q5
  rw [bT_eq] at ho
  have hF5 := hF4.tr hF5
  refine us_pop hR dX4_markedOperand_33 rfl ?_
  refine us_vret hR dX4_markedOperand_34 rfl ?_
  cases ho
  exact h2 _ hP5 hF5
def f_5021_J142 (rec : Nat → Int32 → Sx → Option Sx)  (l1 : Int32) (l2 : Int32) (s : Sx) : Option Sx :=
  bS (f_5006 29 s) fun s1 =>
  bS (sV s1 4 ((s1.2 4) - 1)) fun s2 =>
  bS (sB s2 16 (xset (s2.1 16) l1 l2)) fun s3 =>
  bT (f_4005 15 0 s3) fun s4 r4 =>
  bS (sB s4 17 (xset (s4.1 17) l1 r4)) fun s5 =>
  some s5
def f_5021_L102 (rec : Nat → Int32 → Sx → Option Sx)  : Nat → Int32 → Int32 → Int32 → Sx → Option Sx
  | 0, _, _, _, _ => none
  | n + 1, l1, l2, l3, s =>
    if 300 ≤ l3 then
      f_5021_J142 rec l1 l2 s
    else
      if (f_5003 s) = 32 then
        bS (sV s 2 ((s.2 2) + 1)) fun s9 =>
        bOv (rec 5018 1 s9) fun s10 =>
        f_5021_L102 rec n l1 (l2 + 1) (l3 + 1) s10
      else
        f_5021_J142 rec l1 l2 s
def f_5021 (rec : Nat → Int32 → Sx → Option Sx)  (s : Sx) : Option Sx :=
  bS (sB s 15 (xadd (ev_cap 15) (s.1 15) (s.2 2))) fun s12 =>
  bS (sB s12 16 (xadd (ev_cap 16) (s12.1 16) 0)) fun s13 =>
  bS (sB s13 17 (xadd (ev_cap 17) (s13.1 17) 0)) fun s14 =>
  bS (sB s14 0 (xset (s14.1 0) (s14.2 2) 35)) fun s15 =>
  bS (sV s15 2 ((s15.2 2) + 1)) fun s16 =>
  bS (sB s16 0 (xset (s16.1 0) (s16.2 2) 38)) fun s17 =>
  bS (f_5007 s17) fun s18 =>
  if (f_5003 s18) = 29 then
    f_5021_J142 rec (nI (s.1 15).length) 0 s18
  else
    bOv (rec 5018 1 s18) fun s21 =>
    f_5021_L102 rec 400 (nI (s.1 15).length) (0 + 1) 0 s21
theorem sp_5021 {d : Nat} {G : ab_G} {ad : Nat → Nat} {I : Nat → Nat → Int32} {s : Sx} {P : ab_Pq} {X : ab_Xq} (hE : EV G ad) (hL : LR G ad) (hP : Rep I ad s) {rec : Nat → Int32 → Sx → Option Sx} (hrec0 : ∀ z, z ∈ [5008, 5009, 5010, 5011, 5012, 5013, 5014, 5019, 5020, 5021] → ∀ {s o : Sx} {I : Nat → Nat → Int32} {P : ab_Pq} {X : ab_Xq}, Rep I ad s → rec z 0 s = some o → (∀ I1, Rep I1 ad o → FrE ad I I1 → P (gW G I1) none) → ab_Gam d z [.ref (ad 2)] (gW G I) P X) (hrec1 : ∀ z, z ∈ [5017, 5018] → ∀ {x : Int32} {s o : Sx} {I : Nat → Nat → Int32} {P : ab_Pq} {X : ab_Xq}, Rep I ad s → rec z x s = some o → (∀ I1, Rep I1 ad o → FrE ad I I1 → P (gW G I1) none) → ab_Gam d z [.ref (ad 2), .int x] (gW G I) P X) (hd : 12 ≤ d)   {o : Sx} (ho : f_5021 rec s = some o) (h : ∀ I1, Rep I1 ad o → FrE ad I I1 → P (gW G I1) none) : ab_Gam (d + 1) 5021 [.ref (ad 2)] (gW G I) P X := by
  have h2 := h
  obtain ⟨e, rfl⟩ : ∃ e, d = e + 12 := ⟨d - 12, by omega⟩
  have hF : FrE ad I I := FrE_rfl
  unfold f_5021 at ho
  refine ab_enter (I := i5021) rfl (Nat.le_of_ble_eq_true rfl) (fun R hR => ?_)
  have h5021_J142 : ∀ (l1 : Int32) (l2 : Int32) (w3 : Option Value) (s : Sx) (Ia : Nat → Nat → Int32) (bc bs : Nat) (hPa : Rep Ia ad s) (hFa : FrE ad I Ia) (ho : f_5021_J142 rec l1 l2 s = some o), R 142 [some (.ref (ad 2)), some (.int l1), some (.int l2), w3] [] (gW G Ia) bc bs := by
    intro l1 l2 w3 s Ia bc bs  hPa hFa ho
    unfold f_5021_J142 at ho
    refine us_aload_n hR dX4_call_142 rfl ?_
    refine us_bipushC hR dX4_call_143 (c := 29) (by decide) ?_
    refine us_callV hR dX4_call_145 (y := 5006) (by decide +kernel) (by decide) (J := i5006) rfl rfl rfl rfl (ev_k2 hE) rfl (Nat.le_of_ble_eq_true rfl) (Nat.zero_le _) (Nat.zero_le _) ?_
    refine sp_5006 hE hL hPa  (fun I1 s1 hs1 hP1 hF1 => ?_)
    rw [← hs1, bS_eq] at ho
    have hF1 := hFa.tr hF1
    refine us_aload_n hR dX4_call_148 rfl ?_
    refine us_dup hR dX4_call_149 rfl ?_
    refine us_getIx hR dX4_call_150 fR_5_59 (ev_k2 hE) rfl (Rep_v hP1 4 (by decide)) ?_
    refine us_iconstC hR dX4_call_153 (c := 1) (by decide) ?_
    refine us_isub hR dX4_call_154 ?_
    refine us_putIx hE hP1 4 (by decide) hR dX4_call_155 fR_5_59 (Or.inl rfl) (ev_k2 hE) rfl rfl (fun I2 s2 hs2 hP2 hF2 => ?_)
    rw [← hs2, bS_eq] at ho
    have hF2 := hF1.tr hF2
    refine us_aload_n hR dX4_call_158 rfl ?_
    refine us_getR hR dX4_call_159 fR_5_26 (ev_k2 hE) rfl (ev_r_2_9 hE) ?_
    refine us_iload_n hR dX4_call_162 rfl ?_
    refine us_iload_n hR dX4_call_163 rfl ?_
    refine us_callV hR dX4_call_164 (y := 6003) (by decide +kernel) (by decide) (J := i6003) rfl rfl rfl rfl (ev_rk hE (by decide)) rfl (Nat.le_of_ble_eq_true rfl) (Nat.zero_le _) (Nat.zero_le _) ?_
    refine cR_set hE hP2 16 (by decide) (fun I3 s3 hs3 hP3 hF3 => ?_)
    rw [← hs3, bS_eq] at ho
    have hF3 := hF2.tr hF3
    refine us_aload_n hR dX4_call_167 rfl ?_
    refine us_getR hR dX4_call_168 fR_5_29 (ev_k2 hE) rfl (ev_r_2_10 hE) ?_
    refine us_iload_n hR dX4_call_171 rfl ?_
    refine us_aload_n hR dX4_call_172 rfl ?_
    refine us_getR hR dX4_call_173 fR_5_32 (ev_k2 hE) rfl hL.1 ?_
    refine us_bipushC hR dX4_call_176 (c := 15) (by decide) ?_
    refine us_iconstC hR dX4_call_178 (c := 0) (by decide) ?_
    refine us_callV hR dX4_call_179 (y := 4005) (by decide +kernel) (by decide) (J := i4005) rfl rfl rfl rfl (ev_k0 hE) rfl (Nat.le_of_ble_eq_true rfl) (Nat.zero_le _) (Nat.zero_le _) ?_
    refine sp_4005 hE hP3  (fun I4 q4 hs4 hP4 hF4 => ?_)
    rw [← hs4] at ho
    obtain ⟨s4, r4⟩ := q4
    rw [bT_eq] at ho
    have hF4 := hF3.tr hF4
    refine us_callV hR dX4_call_182 (y := 6003) (by decide +kernel) (by decide) (J := i6003) rfl rfl rfl rfl (ev_rk hE (by decide)) rfl (Nat.le_of_ble_eq_true rfl) (Nat.zero_le _) (Nat.zero_le _) ?_
    refine cR_set hE hP4 17 (by decide) (fun I5 s5 hs5 hP5 hF5 => ?_)
    rw [← hs5, bS_eq] at ho
    have hF5 := hF4.tr hF5
    refine us_vret hR dX4_call_185 rfl ?_
    cases ho
    exact h2 _ hP5 hF5
  have h5021_L102 : ∀ (n : Nat) (l1 : Int32) (l2 : Int32) (l3 : Int32)  (s : Sx) (Ia : Nat → Nat → Int32) (bc bs : Nat) (hPa : Rep Ia ad s) (hFa : FrE ad I Ia) (ho : f_5021_L102 rec n l1 l2 l3 s = some o), R 102 [some (.ref (ad 2)), some (.int l1), some (.int l2), some (.int l3)] [] (gW G Ia) bc bs := by
    intro n
    induction n with
    | zero => intro l1 l2 l3  s Ia bc bs  hPa hFa ho; exact absurd ho (by intro hc; cases hc)
    | succ n102 ih102 =>
      intro l1 l2 l3  s Ia bc bs  hPa hFa ho
      rw [f_5021_L102] at ho
      refine us_iload_n hR dX4_call_102 rfl ?_
      refine us_sipushC hR dX4_call_103 (c := 300) (by decide) ?_
      refine us_icmp_ge hR dX4_call_106 142 (by decide) (fun c6 => ?_) (fun c6 => ?_)
      · rw [if_pos c6] at ho
        exact h5021_J142 l1 l2 _ s Ia _ _ hPa hFa ho
      · rw [if_neg c6] at ho
        refine us_aload_n hR dX4_call_109 rfl ?_
        refine us_callV hR dX4_call_110 (y := 5003) (by decide +kernel) (by decide) (J := i5003) rfl rfl rfl rfl (ev_k2 hE) rfl (Nat.le_of_ble_eq_true rfl) (Nat.zero_le _) (Nat.zero_le _) ?_
        refine sp_5003 hE hL hPa  ?_
        refine us_bipushC hR dX4_call_113 (c := 32) (by decide) ?_
        refine us_icmp_ne hR dX4_call_115 142 (by decide) (fun c8 => ?_) (fun c8 => ?_)
        · rw [if_neg c8] at ho
          exact h5021_J142 l1 l2 _ s Ia _ _ hPa hFa ho
        · rw [if_pos c8] at ho
          refine us_aload_n hR dX4_call_118 rfl ?_
          refine us_dup hR dX4_call_119 rfl ?_
          refine us_getIx hR dX4_call_120 fR_5_46 (ev_k2 hE) rfl (Rep_v hPa 2 (by decide)) ?_
          refine us_iconstC hR dX4_call_123 (c := 1) (by decide) ?_
          refine us_iadd hR dX4_call_124 ?_
          refine us_putIx hE hPa 2 (by decide) hR dX4_call_125 fR_5_46 (Or.inl rfl) (ev_k2 hE) rfl rfl (fun I9 s9 hs9 hP9 hF9 => ?_)
          rw [← hs9, bS_eq] at ho
          have hF9 := hFa.tr hF9
          refine us_aload_n hR dX4_call_128 rfl ?_
          refine us_iconstC hR dX4_call_129 (c := 1) (by decide) ?_
          refine us_callV hR dX4_call_130 (y := 5018) (by decide +kernel) (by decide) (J := i5018) rfl rfl rfl rfl (ev_k2 hE) rfl (Nat.le_of_ble_eq_true rfl) (Nat.zero_le _) (Nat.zero_le _) ?_
          obtain ⟨s10, hs10⟩ := bOv_ex ho
          replace ho := bOv_go ho hs10
          refine hrec1 5018 (by decide) hP9 hs10 (fun I10 hP10 hF10 => ?_)
          have hF10 := hF9.tr hF10
          refine us_iincC hR dX4_call_133 rfl (Nat.le_of_ble_eq_true rfl) (c := 1) (by decide) ?_
          refine us_iincC hR dX4_call_136 rfl (Nat.le_of_ble_eq_true rfl) (c := 1) (by decide) ?_
          refine us_goto hR dX4_call_139 102 (by decide) ?_
          exact ih102 l1 (l2 + 1) (l3 + 1)  s10 I10 _ _ hP10 hF10 ho
  refine us_aload_n hR dX4_call_0 rfl ?_
  refine us_getR hR dX4_call_1 fR_5_23 (ev_k2 hE) rfl (ev_r_2_8 hE) ?_
  refine us_callV hR dX4_call_4 (y := 6001) (by decide +kernel) (by decide) (J := i6001) rfl rfl rfl rfl (ev_rk hE (by decide)) rfl (Nat.le_of_ble_eq_true rfl) (Nat.zero_le _) (Nat.zero_le _) ?_
  refine cR_size hE hP 15 (by decide) ?_
  refine us_istore_n hR dX4_call_7 (Nat.le_of_ble_eq_true rfl) ?_
  refine us_aload_n hR dX4_call_8 rfl ?_
  refine us_getR hR dX4_call_9 fR_5_23 (ev_k2 hE) rfl (ev_r_2_8 hE) ?_
  refine us_aload_n hR dX4_call_12 rfl ?_
  refine us_getIx hR dX4_call_13 fR_5_46 (ev_k2 hE) rfl (Rep_v hP 2 (by decide)) ?_
  refine us_callV hR dX4_call_16 (y := 6004) (by decide +kernel) (by decide) (J := i6004) rfl rfl rfl rfl (ev_rk hE (by decide)) rfl (Nat.le_of_ble_eq_true rfl) (Nat.zero_le _) (Nat.zero_le _) ?_
  refine cR_add hE hP 15 (by decide) (fun I12 s12 hs12 hP12 hF12 => ?_)
  rw [← hs12, bS_eq] at ho
  have hF12 := hF.tr hF12
  refine us_aload_n hR dX4_call_19 rfl ?_
  refine us_getR hR dX4_call_20 fR_5_26 (ev_k2 hE) rfl (ev_r_2_9 hE) ?_
  refine us_iconstC hR dX4_call_23 (c := 0) (by decide) ?_
  refine us_callV hR dX4_call_24 (y := 6004) (by decide +kernel) (by decide) (J := i6004) rfl rfl rfl rfl (ev_rk hE (by decide)) rfl (Nat.le_of_ble_eq_true rfl) (Nat.zero_le _) (Nat.zero_le _) ?_
  refine cR_add hE hP12 16 (by decide) (fun I13 s13 hs13 hP13 hF13 => ?_)
  rw [← hs13, bS_eq] at ho
  have hF13 := hF12.tr hF13
  refine us_aload_n hR dX4_call_27 rfl ?_
  refine us_getR hR dX4_call_28 fR_5_29 (ev_k2 hE) rfl (ev_r_2_10 hE) ?_
  refine us_iconstC hR dX4_call_31 (c := 0) (by decide) ?_
  refine us_callV hR dX4_call_32 (y := 6004) (by decide +kernel) (by decide) (J := i6004) rfl rfl rfl rfl (ev_rk hE (by decide)) rfl (Nat.le_of_ble_eq_true rfl) (Nat.zero_le _) (Nat.zero_le _) ?_
  refine cR_add hE hP13 17 (by decide) (fun I14 s14 hs14 hP14 hF14 => ?_)
  rw [← hs14, bS_eq] at ho
  have hF14 := hF13.tr hF14
  refine us_aload_n hR dX4_call_35 rfl ?_
  refine us_getR hR dX4_call_36 fR_5_42 (ev_k2 hE) rfl hL.2 ?_
  refine us_getR hR dX4_call_39 fR_5_90 (ev_k1 hE) rfl (ev_r_1_0 hE) ?_
  refine us_aload_n hR dX4_call_42 rfl ?_
  refine us_getIx hR dX4_call_43 fR_5_46 (ev_k2 hE) rfl (Rep_v hP14 2 (by decide)) ?_
  refine us_bipushC hR dX4_call_46 (c := 35) (by decide) ?_
  refine us_callV hR dX4_call_48 (y := 6003) (by decide +kernel) (by decide) (J := i6003) rfl rfl rfl rfl (ev_rk hE (by decide)) rfl (Nat.le_of_ble_eq_true rfl) (Nat.zero_le _) (Nat.zero_le _) ?_
  refine cR_set hE hP14 0 (by decide) (fun I15 s15 hs15 hP15 hF15 => ?_)
  rw [← hs15, bS_eq] at ho
  have hF15 := hF14.tr hF15
  refine us_aload_n hR dX4_call_51 rfl ?_
  refine us_dup hR dX4_call_52 rfl ?_
  refine us_getIx hR dX4_call_53 fR_5_46 (ev_k2 hE) rfl (Rep_v hP15 2 (by decide)) ?_
  refine us_iconstC hR dX4_call_56 (c := 1) (by decide) ?_
  refine us_iadd hR dX4_call_57 ?_
  refine us_putIx hE hP15 2 (by decide) hR dX4_call_58 fR_5_46 (Or.inl rfl) (ev_k2 hE) rfl rfl (fun I16 s16 hs16 hP16 hF16 => ?_)
  rw [← hs16, bS_eq] at ho
  have hF16 := hF15.tr hF16
  refine us_aload_n hR dX4_call_61 rfl ?_
  refine us_getR hR dX4_call_62 fR_5_42 (ev_k2 hE) rfl hL.2 ?_
  refine us_getR hR dX4_call_65 fR_5_90 (ev_k1 hE) rfl (ev_r_1_0 hE) ?_
  refine us_aload_n hR dX4_call_68 rfl ?_
  refine us_getIx hR dX4_call_69 fR_5_46 (ev_k2 hE) rfl (Rep_v hP16 2 (by decide)) ?_
  refine us_bipushC hR dX4_call_72 (c := 38) (by decide) ?_
  refine us_callV hR dX4_call_74 (y := 6003) (by decide +kernel) (by decide) (J := i6003) rfl rfl rfl rfl (ev_rk hE (by decide)) rfl (Nat.le_of_ble_eq_true rfl) (Nat.zero_le _) (Nat.zero_le _) ?_
  refine cR_set hE hP16 0 (by decide) (fun I17 s17 hs17 hP17 hF17 => ?_)
  rw [← hs17, bS_eq] at ho
  have hF17 := hF16.tr hF17
  refine us_aload_n hR dX4_call_77 rfl ?_
  refine us_callV hR dX4_call_78 (y := 5007) (by decide +kernel) (by decide) (J := i5007) rfl rfl rfl rfl (ev_k2 hE) rfl (Nat.le_of_ble_eq_true rfl) (Nat.zero_le _) (Nat.zero_le _) ?_
  refine sp_5007 hE hL hP17  (fun I18 s18 hs18 hP18 hF18 => ?_)
  rw [← hs18, bS_eq] at ho
  have hF18 := hF17.tr hF18
  refine us_iconstC hR dX4_call_81 (c := 0) (by decide) ?_
  refine us_istore_n hR dX4_call_82 (Nat.le_of_ble_eq_true rfl) ?_
  refine us_aload_n hR dX4_call_83 rfl ?_
  refine us_callV hR dX4_call_84 (y := 5003) (by decide +kernel) (by decide) (J := i5003) rfl rfl rfl rfl (ev_k2 hE) rfl (Nat.le_of_ble_eq_true rfl) (Nat.zero_le _) (Nat.zero_le _) ?_
  refine sp_5003 hE hL hP18  ?_
  refine us_bipushC hR dX4_call_87 (c := 29) (by decide) ?_
  refine us_icmp_eq hR dX4_call_89 142 (by decide) (fun c20 => ?_) (fun c20 => ?_)
  · rw [if_pos c20] at ho
    exact h5021_J142 (nI (s.1 15).length) 0 _ s18 I18 _ _ hP18 hF18 ho
  · rw [if_neg c20] at ho
    refine us_aload_n hR dX4_call_92 rfl ?_
    refine us_iconstC hR dX4_call_93 (c := 1) (by decide) ?_
    refine us_callV hR dX4_call_94 (y := 5018) (by decide +kernel) (by decide) (J := i5018) rfl rfl rfl rfl (ev_k2 hE) rfl (Nat.le_of_ble_eq_true rfl) (Nat.zero_le _) (Nat.zero_le _) ?_
    obtain ⟨s21, hs21⟩ := bOv_ex ho
    replace ho := bOv_go ho hs21
    refine hrec1 5018 (by decide) hP18 hs21 (fun I21 hP21 hF21 => ?_)
    have hF21 := hF18.tr hF21
    refine us_iincC hR dX4_call_97 rfl (Nat.le_of_ble_eq_true rfl) (c := 1) (by decide) ?_
    refine us_iconstC hR dX4_call_100 (c := 0) (by decide) ?_
    refine us_istore_n hR dX4_call_101 (Nat.le_of_ble_eq_true rfl) ?_
    exact h5021_L102 _ (nI (s.1 15).length) (0 + 1) 0  s21 I21 _ _ hP21 hF21 ho
def f_5017_J63 (rec : Nat → Int32 → Sx → Option Sx)  (l1 : Int32) (l2 : Int32) (l3 : Int32) (s : Sx) : Option Sx :=
  bS (sB s 1 (xset (s.1 1) l2 ((s.2 2) + 1))) fun s1 =>
  bS (sB s1 1 (xset (s1.1 1) (s1.2 2) l1)) fun s2 =>
  bS (f_5006 31 s2) fun s3 =>
  bS (sV s3 4 ((s3.2 4) - 1)) fun s4 =>
  some s4
def f_5017_L30 (rec : Nat → Int32 → Sx → Option Sx)  : Nat → Int32 → Int32 → Int32 → Sx → Option Sx
  | 0, _, _, _, _ => none
  | n + 1, l1, l2, l3, s =>
    if 300 ≤ l3 then
      f_5017_J63 rec l1 l2 l3 s
    else
      if (f_5003 s) = 31 then
        f_5017_J63 rec l1 l2 l3 s
      else
        if (f_5003 s) = 0 then
          f_5017_J63 rec l1 l2 l3 s
        else
          bOv (rec 5008 0 s) fun s10 =>
          f_5017_L30 rec n l1 l2 (l3 + 1) s10
def f_5017 (rec : Nat → Int32 → Sx → Option Sx) (x0 : Int32) (s : Sx) : Option Sx :=
  if (f_5003 s) = 30 then
    bS (f_5007 s) fun s13 =>
    f_5017_L30 rec 400 x0 (s.2 2) 0 s13
  else
    bS (f_5005 3 (s.2 2) s) fun s14 =>
    some s14
theorem sp_5017 {d : Nat} {G : ab_G} {ad : Nat → Nat} {I : Nat → Nat → Int32} {s : Sx} {P : ab_Pq} {X : ab_Xq} (hE : EV G ad) (hL : LR G ad) (hP : Rep I ad s) {rec : Nat → Int32 → Sx → Option Sx} (hrec0 : ∀ z, z ∈ [5008, 5009, 5010, 5011, 5012, 5013, 5014, 5019, 5020, 5021] → ∀ {s o : Sx} {I : Nat → Nat → Int32} {P : ab_Pq} {X : ab_Xq}, Rep I ad s → rec z 0 s = some o → (∀ I1, Rep I1 ad o → FrE ad I I1 → P (gW G I1) none) → ab_Gam d z [.ref (ad 2)] (gW G I) P X) (hrec1 : ∀ z, z ∈ [5017, 5018] → ∀ {x : Int32} {s o : Sx} {I : Nat → Nat → Int32} {P : ab_Pq} {X : ab_Xq}, Rep I ad s → rec z x s = some o → (∀ I1, Rep I1 ad o → FrE ad I I1 → P (gW G I1) none) → ab_Gam d z [.ref (ad 2), .int x] (gW G I) P X) (hd : 12 ≤ d) {x0 : Int32}  {o : Sx} (ho : f_5017 rec x0 s = some o) (h : ∀ I1, Rep I1 ad o → FrE ad I I1 → P (gW G I1) none) : ab_Gam (d + 1) 5017 [.ref (ad 2), .int x0] (gW G I) P X := by
  have h2 := h
  obtain ⟨e, rfl⟩ : ∃ e, d = e + 12 := ⟨d - 12, by omega⟩
  have hF : FrE ad I I := FrE_rfl
  unfold f_5017 at ho
  refine ab_enter (I := i5017) rfl (Nat.le_of_ble_eq_true rfl) (fun R hR => ?_)
  have h5017_J63 : ∀ (l1 : Int32) (l2 : Int32) (l3 : Int32)  (s : Sx) (Ia : Nat → Nat → Int32) (bc bs : Nat) (hPa : Rep Ia ad s) (hFa : FrE ad I Ia) (ho : f_5017_J63 rec l1 l2 l3 s = some o), R 63 [some (.ref (ad 2)), some (.int l1), some (.int l2), some (.int l3)] [] (gW G Ia) bc bs := by
    intro l1 l2 l3  s Ia bc bs  hPa hFa ho
    unfold f_5017_J63 at ho
    refine us_aload_n hR dX4_block_63 rfl ?_
    refine us_getR hR dX4_block_64 fR_5_42 (ev_k2 hE) rfl hL.2 ?_
    refine us_getR hR dX4_block_67 fR_5_163 (ev_k1 hE) rfl (ev_r_1_1 hE) ?_
    refine us_iload_n hR dX4_block_70 rfl ?_
    refine us_aload_n hR dX4_block_71 rfl ?_
    refine us_getIx hR dX4_block_72 fR_5_46 (ev_k2 hE) rfl (Rep_v hPa 2 (by decide)) ?_
    refine us_iconstC hR dX4_block_75 (c := 1) (by decide) ?_
    refine us_iadd hR dX4_block_76 ?_
    refine us_callV hR dX4_block_77 (y := 6003) (by decide +kernel) (by decide) (J := i6003) rfl rfl rfl rfl (ev_rk hE (by decide)) rfl (Nat.le_of_ble_eq_true rfl) (Nat.zero_le _) (Nat.zero_le _) ?_
    refine cR_set hE hPa 1 (by decide) (fun I1 s1 hs1 hP1 hF1 => ?_)
    rw [← hs1, bS_eq] at ho
    have hF1 := hFa.tr hF1
    refine us_aload_n hR dX4_block_80 rfl ?_
    refine us_getR hR dX4_block_81 fR_5_42 (ev_k2 hE) rfl hL.2 ?_
    refine us_getR hR dX4_block_84 fR_5_163 (ev_k1 hE) rfl (ev_r_1_1 hE) ?_
    refine us_aload_n hR dX4_block_87 rfl ?_
    refine us_getIx hR dX4_block_88 fR_5_46 (ev_k2 hE) rfl (Rep_v hP1 2 (by decide)) ?_
    refine us_iload_n hR dX4_block_91 rfl ?_
    refine us_callV hR dX4_block_92 (y := 6003) (by decide +kernel) (by decide) (J := i6003) rfl rfl rfl rfl (ev_rk hE (by decide)) rfl (Nat.le_of_ble_eq_true rfl) (Nat.zero_le _) (Nat.zero_le _) ?_
    refine cR_set hE hP1 1 (by decide) (fun I2 s2 hs2 hP2 hF2 => ?_)
    rw [← hs2, bS_eq] at ho
    have hF2 := hF1.tr hF2
    refine us_aload_n hR dX4_block_95 rfl ?_
    refine us_bipushC hR dX4_block_96 (c := 31) (by decide) ?_
    refine us_callV hR dX4_block_98 (y := 5006) (by decide +kernel) (by decide) (J := i5006) rfl rfl rfl rfl (ev_k2 hE) rfl (Nat.le_of_ble_eq_true rfl) (Nat.zero_le _) (Nat.zero_le _) ?_
    refine sp_5006 hE hL hP2  (fun I3 s3 hs3 hP3 hF3 => ?_)
    rw [← hs3, bS_eq] at ho
    have hF3 := hF2.tr hF3
    refine us_aload_n hR dX4_block_101 rfl ?_
    refine us_dup hR dX4_block_102 rfl ?_
    refine us_getIx hR dX4_block_103 fR_5_59 (ev_k2 hE) rfl (Rep_v hP3 4 (by decide)) ?_
    refine us_iconstC hR dX4_block_106 (c := 1) (by decide) ?_
    refine us_isub hR dX4_block_107 ?_
    refine us_putIx hE hP3 4 (by decide) hR dX4_block_108 fR_5_59 (Or.inl rfl) (ev_k2 hE) rfl rfl (fun I4 s4 hs4 hP4 hF4 => ?_)
    rw [← hs4, bS_eq] at ho
    have hF4 := hF3.tr hF4
    refine us_vret hR dX4_block_111 rfl ?_
    cases ho
    exact h2 _ hP4 hF4
  have h5017_L30 : ∀ (n : Nat) (l1 : Int32) (l2 : Int32) (l3 : Int32)  (s : Sx) (Ia : Nat → Nat → Int32) (bc bs : Nat) (hPa : Rep Ia ad s) (hFa : FrE ad I Ia) (ho : f_5017_L30 rec n l1 l2 l3 s = some o), R 30 [some (.ref (ad 2)), some (.int l1), some (.int l2), some (.int l3)] [] (gW G Ia) bc bs := by
    intro n
    induction n with
    | zero => intro l1 l2 l3  s Ia bc bs  hPa hFa ho; exact absurd ho (by intro hc; cases hc)
    | succ n30 ih30 =>
      intro l1 l2 l3  s Ia bc bs  hPa hFa ho
      rw [f_5017_L30] at ho
      refine us_iload_n hR dX4_block_30 rfl ?_
      refine us_sipushC hR dX4_block_31 (c := 300) (by decide) ?_
      refine us_icmp_ge hR dX4_block_34 63 (by decide) (fun c5 => ?_) (fun c5 => ?_)
      · rw [if_pos c5] at ho
        exact h5017_J63 l1 l2 l3  s Ia _ _ hPa hFa ho
      · rw [if_neg c5] at ho
        refine us_aload_n hR dX4_block_37 rfl ?_
        refine us_callV hR dX4_block_38 (y := 5003) (by decide +kernel) (by decide) (J := i5003) rfl rfl rfl rfl (ev_k2 hE) rfl (Nat.le_of_ble_eq_true rfl) (Nat.zero_le _) (Nat.zero_le _) ?_
        refine sp_5003 hE hL hPa  ?_
        refine us_bipushC hR dX4_block_41 (c := 31) (by decide) ?_
        refine us_icmp_eq hR dX4_block_43 63 (by decide) (fun c7 => ?_) (fun c7 => ?_)
        · rw [if_pos c7] at ho
          exact h5017_J63 l1 l2 l3  s Ia _ _ hPa hFa ho
        · rw [if_neg c7] at ho
          refine us_aload_n hR dX4_block_46 rfl ?_
          refine us_callV hR dX4_block_47 (y := 5003) (by decide +kernel) (by decide) (J := i5003) rfl rfl rfl rfl (ev_k2 hE) rfl (Nat.le_of_ble_eq_true rfl) (Nat.zero_le _) (Nat.zero_le _) ?_
          refine sp_5003 hE hL hPa  ?_
          refine us_if_eq hR dX4_block_50 63 (by decide) (fun c9 => ?_) (fun c9 => ?_)
          · rw [if_pos c9] at ho
            exact h5017_J63 l1 l2 l3  s Ia _ _ hPa hFa ho
          · rw [if_neg c9] at ho
            refine us_aload_n hR dX4_block_53 rfl ?_
            refine us_callV hR dX4_block_54 (y := 5008) (by decide +kernel) (by decide) (J := i5008) rfl rfl rfl rfl (ev_k2 hE) rfl (Nat.le_of_ble_eq_true rfl) (Nat.zero_le _) (Nat.zero_le _) ?_
            obtain ⟨s10, hs10⟩ := bOv_ex ho
            replace ho := bOv_go ho hs10
            refine hrec0 5008 (by decide) hPa hs10 (fun I10 hP10 hF10 => ?_)
            have hF10 := hFa.tr hF10
            refine us_iincC hR dX4_block_57 rfl (Nat.le_of_ble_eq_true rfl) (c := 1) (by decide) ?_
            refine us_goto hR dX4_block_60 30 (by decide) ?_
            exact ih30 l1 l2 (l3 + 1)  s10 I10 _ _ hP10 hF10 ho
  refine us_aload_n hR dX4_block_0 rfl ?_
  refine us_getIx hR dX4_block_1 fR_5_46 (ev_k2 hE) rfl (Rep_v hP 2 (by decide)) ?_
  refine us_istore_n hR dX4_block_4 (Nat.le_of_ble_eq_true rfl) ?_
  refine us_aload_n hR dX4_block_5 rfl ?_
  refine us_callV hR dX4_block_6 (y := 5003) (by decide +kernel) (by decide) (J := i5003) rfl rfl rfl rfl (ev_k2 hE) rfl (Nat.le_of_ble_eq_true rfl) (Nat.zero_le _) (Nat.zero_le _) ?_
  refine sp_5003 hE hL hP  ?_
  refine us_bipushC hR dX4_block_9 (c := 30) (by decide) ?_
  refine us_icmp_eq hR dX4_block_11 24 (by decide) (fun c12 => ?_) (fun c12 => ?_)
  · rw [if_pos c12] at ho
    refine us_aload_n hR dX4_block_24 rfl ?_
    refine us_callV hR dX4_block_25 (y := 5007) (by decide +kernel) (by decide) (J := i5007) rfl rfl rfl rfl (ev_k2 hE) rfl (Nat.le_of_ble_eq_true rfl) (Nat.zero_le _) (Nat.zero_le _) ?_
    refine sp_5007 hE hL hP  (fun I13 s13 hs13 hP13 hF13 => ?_)
    rw [← hs13, bS_eq] at ho
    have hF13 := hF.tr hF13
    refine us_iconstC hR dX4_block_28 (c := 0) (by decide) ?_
    refine us_istore_n hR dX4_block_29 (Nat.le_of_ble_eq_true rfl) ?_
    exact h5017_L30 _ x0 (s.2 2) 0  s13 I13 _ _ hP13 hF13 ho
  · rw [if_neg c12] at ho
    refine us_aload_n hR dX4_block_14 rfl ?_
    refine us_iconstC hR dX4_block_15 (c := 3) (by decide) ?_
    refine us_aload_n hR dX4_block_16 rfl ?_
    refine us_getIx hR dX4_block_17 fR_5_46 (ev_k2 hE) rfl (Rep_v hP 2 (by decide)) ?_
    refine us_callV hR dX4_block_20 (y := 5005) (by decide +kernel) (by decide) (J := i5005) rfl rfl rfl rfl (ev_k2 hE) rfl (Nat.le_of_ble_eq_true rfl) (Nat.zero_le _) (Nat.zero_le _) ?_
    refine sp_5005 hE hL hP  (fun I14 s14 hs14 hP14 hF14 => ?_)
    rw [← hs14, bS_eq] at ho
    have hF14 := hF.tr hF14
    refine us_vret hR dX4_block_23 rfl ?_
    cases ho
    exact h2 _ hP14 hF14
def f_5018_J91 (rec : Nat → Int32 → Sx → Option Sx)  (k20 : Int32 → Int32 → Sx → Option Sx) (l1 : Int32) (l2 : Int32) (l3 : Int32) (l4 : Int32) (k0 : Int32) (s : Sx) : Option Sx :=
  bT (f_4005 k0 0 s) fun s1 r1 =>
  bOv (rec 5018 (l1 + 1) s1) fun s2 =>
  bT (f_4005 10 0 s2) fun s3 r3 =>
  bS (f_4009 r1 (f_4006 s3) s3) fun s5 =>
  bS (sB s5 1 (xset (s5.1 1) l3 (s5.2 2))) fun s6 =>
  k20 l1 (l2 + 1) s6
def f_5018_J73 (rec : Nat → Int32 → Sx → Option Sx)  (k20 : Int32 → Int32 → Sx → Option Sx) (l1 : Int32) (l2 : Int32) (l3 : Int32) (l4 : Int32) (s : Sx) : Option Sx :=
  if l4 = 23 then
    f_5018_J91 rec k20 l1 l2 l3 l4 11 s
  else
    f_5018_J91 rec k20 l1 l2 l3 l4 12 s
def f_5018_L20 (rec : Nat → Int32 → Sx → Option Sx)  : Nat → Int32 → Int32 → Sx → Option Sx
  | 0, _, _, _ => none
  | n + 1, l1, l2, s =>
    if 300 ≤ l2 then
      some s
    else
      if (f_9003 (f_5003 s) s) = l1 then
        bS (sV s 2 ((s.2 2) + 1)) fun s13 =>
        if (f_5003 s) = 23 then
          f_5018_J73 rec (f_5018_L20 rec n) l1 l2 (s.2 2) (f_5003 s) s13
        else
          if (f_5003 s) = 24 then
            f_5018_J73 rec (f_5018_L20 rec n) l1 l2 (s.2 2) (f_5003 s) s13
          else
            bOv (rec 5018 (l1 + 1) s13) fun s16 =>
            bT (f_4005 9 (f_5003 s) s16) fun s17 r17 =>
            f_5018_L20 rec n l1 (l2 + 1) s17
      else
        some s
def f_5018 (rec : Nat → Int32 → Sx → Option Sx) (x0 : Int32) (s : Sx) : Option Sx :=
  if x0 < 7 then
    bOv (rec 5018 (x0 + 1) s) fun s19 =>
    f_5018_L20 rec 400 x0 0 s19
  else
    bOv (rec 5019 0 s) fun s20 =>
    some s20
theorem sp_5018 {d : Nat} {G : ab_G} {ad : Nat → Nat} {I : Nat → Nat → Int32} {s : Sx} {P : ab_Pq} {X : ab_Xq} (hE : EV G ad) (hL : LR G ad) (hP : Rep I ad s) {rec : Nat → Int32 → Sx → Option Sx} (hrec0 : ∀ z, z ∈ [5008, 5009, 5010, 5011, 5012, 5013, 5014, 5019, 5020, 5021] → ∀ {s o : Sx} {I : Nat → Nat → Int32} {P : ab_Pq} {X : ab_Xq}, Rep I ad s → rec z 0 s = some o → (∀ I1, Rep I1 ad o → FrE ad I I1 → P (gW G I1) none) → ab_Gam d z [.ref (ad 2)] (gW G I) P X) (hrec1 : ∀ z, z ∈ [5017, 5018] → ∀ {x : Int32} {s o : Sx} {I : Nat → Nat → Int32} {P : ab_Pq} {X : ab_Xq}, Rep I ad s → rec z x s = some o → (∀ I1, Rep I1 ad o → FrE ad I I1 → P (gW G I1) none) → ab_Gam d z [.ref (ad 2), .int x] (gW G I) P X) (hd : 12 ≤ d) {x0 : Int32}  {o : Sx} (ho : f_5018 rec x0 s = some o) (h : ∀ I1, Rep I1 ad o → FrE ad I I1 → P (gW G I1) none) : ab_Gam (d + 1) 5018 [.ref (ad 2), .int x0] (gW G I) P X := by
  have h2 := h
  obtain ⟨e, rfl⟩ : ∃ e, d = e + 12 := ⟨d - 12, by omega⟩
  have hF : FrE ad I I := FrE_rfl
  unfold f_5018 at ho
  refine ab_enter (I := i5018) rfl (Nat.le_of_ble_eq_true rfl) (fun R hR => ?_)
  have h5018_L20 : ∀ (n : Nat) (l1 : Int32) (l2 : Int32) (w3 : Option Value) (w4 : Option Value) (w5 : Option Value) (s : Sx) (Ia : Nat → Nat → Int32) (bc bs : Nat) (hPa : Rep Ia ad s) (hFa : FrE ad I Ia) (ho : f_5018_L20 rec n l1 l2 s = some o), R 20 [some (.ref (ad 2)), some (.int l1), some (.int l2), w3, w4, w5] [] (gW G Ia) bc bs := by
    intro n
    induction n with
    | zero => intro l1 l2 w3 w4 w5 s Ia bc bs  hPa hFa ho; exact absurd ho (by intro hc; cases hc)
    | succ n20 ih20 =>
      have h5018_J91 : ∀ (l1 : Int32) (l2 : Int32) (l3 : Int32) (l4 : Int32) (k0 : Int32) (w5 : Option Value) (s : Sx) (Ia : Nat → Nat → Int32) (bc bs : Nat) (hPa : Rep Ia ad s) (hFa : FrE ad I Ia) (ho : f_5018_J91 rec (f_5018_L20 rec n20) l1 l2 l3 l4 k0 s = some o), R 91 [some (.ref (ad 2)), some (.int l1), some (.int l2), some (.int l3), some (.int l4), w5] [.int k0, .ref (ad 0)] (gW G Ia) bc bs := by
        intro l1 l2 l3 l4 k0 w5 s Ia bc bs  hPa hFa ho
        unfold f_5018_J91 at ho
        refine us_iconstC hR dX4_expression_91 (c := 0) (by decide) ?_
        refine us_callV hR dX4_expression_92 (y := 4005) (by decide +kernel) (by decide) (J := i4005) rfl rfl rfl rfl (ev_k0 hE) rfl (Nat.le_of_ble_eq_true rfl) (Nat.zero_le _) (Nat.zero_le _) ?_
        refine sp_4005 hE hPa  (fun I1 q1 hs1 hP1 hF1 => ?_)
        rw [← hs1] at ho
        obtain ⟨s1, r1⟩ := q1
        rw [bT_eq] at ho
        have hF1 := hFa.tr hF1
        refine us_istore hR dX4_expression_95 (Nat.le_of_ble_eq_true rfl) ?_
        refine us_aload_n hR dX4_expression_97 rfl ?_
        refine us_iload_n hR dX4_expression_98 rfl ?_
        refine us_iconstC hR dX4_expression_99 (c := 1) (by decide) ?_
        refine us_iadd hR dX4_expression_100 ?_
        refine us_callV hR dX4_expression_101 (y := 5018) (by decide +kernel) (by decide) (J := i5018) rfl rfl rfl rfl (ev_k2 hE) rfl (Nat.le_of_ble_eq_true rfl) (Nat.zero_le _) (Nat.zero_le _) ?_
        obtain ⟨s2, hs2⟩ := bOv_ex ho
        replace ho := bOv_go ho hs2
        refine hrec1 5018 (by decide) hP1 hs2 (fun I2 hP2 hF2 => ?_)
        have hF2 := hF1.tr hF2
        refine us_aload_n hR dX4_expression_104 rfl ?_
        refine us_getR hR dX4_expression_105 fR_5_32 (ev_k2 hE) rfl hL.1 ?_
        refine us_bipushC hR dX4_expression_108 (c := 10) (by decide) ?_
        refine us_iconstC hR dX4_expression_110 (c := 0) (by decide) ?_
        refine us_callV hR dX4_expression_111 (y := 4005) (by decide +kernel) (by decide) (J := i4005) rfl rfl rfl rfl (ev_k0 hE) rfl (Nat.le_of_ble_eq_true rfl) (Nat.zero_le _) (Nat.zero_le _) ?_
        refine sp_4005 hE hP2  (fun I3 q3 hs3 hP3 hF3 => ?_)
        rw [← hs3] at ho
        obtain ⟨s3, r3⟩ := q3
        rw [bT_eq] at ho
        have hF3 := hF2.tr hF3
        refine us_pop hR dX4_expression_114 rfl ?_
        refine us_aload_n hR dX4_expression_115 rfl ?_
        refine us_getR hR dX4_expression_116 fR_5_32 (ev_k2 hE) rfl hL.1 ?_
        refine us_iload hR dX4_expression_119 rfl ?_
        refine us_aload_n hR dX4_expression_121 rfl ?_
        refine us_getR hR dX4_expression_122 fR_5_32 (ev_k2 hE) rfl hL.1 ?_
        refine us_callV hR dX4_expression_125 (y := 4006) (by decide +kernel) (by decide) (J := i4006) rfl rfl rfl rfl (ev_k0 hE) rfl (Nat.le_of_ble_eq_true rfl) (Nat.zero_le _) (Nat.zero_le _) ?_
        refine sp_4006 hE hP3  ?_
        refine us_callV hR dX4_expression_128 (y := 4009) (by decide +kernel) (by decide) (J := i4009) rfl rfl rfl rfl (ev_k0 hE) rfl (Nat.le_of_ble_eq_true rfl) (Nat.zero_le _) (Nat.zero_le _) ?_
        refine sp_4009 hE hP3  (fun I5 s5 hs5 hP5 hF5 => ?_)
        rw [← hs5, bS_eq] at ho
        have hF5 := hF3.tr hF5
        refine us_aload_n hR dX4_expression_131 rfl ?_
        refine us_getR hR dX4_expression_132 fR_5_42 (ev_k2 hE) rfl hL.2 ?_
        refine us_getR hR dX4_expression_135 fR_5_163 (ev_k1 hE) rfl (ev_r_1_1 hE) ?_
        refine us_iload_n hR dX4_expression_138 rfl ?_
        refine us_aload_n hR dX4_expression_139 rfl ?_
        refine us_getIx hR dX4_expression_140 fR_5_46 (ev_k2 hE) rfl (Rep_v hP5 2 (by decide)) ?_
        refine us_callV hR dX4_expression_143 (y := 6003) (by decide +kernel) (by decide) (J := i6003) rfl rfl rfl rfl (ev_rk hE (by decide)) rfl (Nat.le_of_ble_eq_true rfl) (Nat.zero_le _) (Nat.zero_le _) ?_
        refine cR_set hE hP5 1 (by decide) (fun I6 s6 hs6 hP6 hF6 => ?_)
        rw [← hs6, bS_eq] at ho
        have hF6 := hF5.tr hF6
        refine us_goto hR dX4_expression_146 168 (by decide) ?_
        refine us_iincC hR dX4_expression_168 rfl (Nat.le_of_ble_eq_true rfl) (c := 1) (by decide) ?_
        refine us_goto hR dX4_expression_171 20 (by decide) ?_
        exact ih20 l1 (l2 + 1) _ _ _ s6 I6 _ _ hP6 hF6 ho
      have h5018_J73 : ∀ (l1 : Int32) (l2 : Int32) (l3 : Int32) (l4 : Int32) (w5 : Option Value) (s : Sx) (Ia : Nat → Nat → Int32) (bc bs : Nat) (hPa : Rep Ia ad s) (hFa : FrE ad I Ia) (ho : f_5018_J73 rec (f_5018_L20 rec n20) l1 l2 l3 l4 s = some o), R 73 [some (.ref (ad 2)), some (.int l1), some (.int l2), some (.int l3), some (.int l4), w5] [] (gW G Ia) bc bs := by
        intro l1 l2 l3 l4 w5 s Ia bc bs  hPa hFa ho
        unfold f_5018_J73 at ho
        refine us_aload_n hR dX4_expression_73 rfl ?_
        refine us_getR hR dX4_expression_74 fR_5_32 (ev_k2 hE) rfl hL.1 ?_
        refine us_iload hR dX4_expression_77 rfl ?_
        refine us_bipushC hR dX4_expression_79 (c := 23) (by decide) ?_
        refine us_icmp_ne hR dX4_expression_81 89 (by decide) (fun c7 => ?_) (fun c7 => ?_)
        · rw [if_neg c7] at ho
          refine us_bipushC hR dX4_expression_89 (c := 12) (by decide) ?_
          exact h5018_J91 l1 l2 l3 l4 12 _ s Ia _ _ hPa hFa ho
        · rw [if_pos c7] at ho
          refine us_bipushC hR dX4_expression_84 (c := 11) (by decide) ?_
          refine us_goto hR dX4_expression_86 91 (by decide) ?_
          exact h5018_J91 l1 l2 l3 l4 11 _ s Ia _ _ hPa hFa ho
      intro l1 l2 w3 w4 w5 s Ia bc bs  hPa hFa ho
      rw [f_5018_L20] at ho
      refine us_iload_n hR dX4_expression_20 rfl ?_
      refine us_sipushC hR dX4_expression_21 (c := 300) (by decide) ?_
      refine us_icmp_ge hR dX4_expression_24 174 (by decide) (fun c8 => ?_) (fun c8 => ?_)
      · rw [if_pos c8] at ho
        refine us_vret hR dX4_expression_174 rfl ?_
        cases ho
        exact h2 _ hPa hFa
      · rw [if_neg c8] at ho
        refine us_aload_n hR dX4_expression_27 rfl ?_
        refine us_callV hR dX4_expression_28 (y := 5003) (by decide +kernel) (by decide) (J := i5003) rfl rfl rfl rfl (ev_k2 hE) rfl (Nat.le_of_ble_eq_true rfl) (Nat.zero_le _) (Nat.zero_le _) ?_
        refine sp_5003 hE hL hPa  ?_
        refine us_callS hR dX4_expression_31 (y := 9003) (by decide +kernel) (by decide) (J := i9003) rfl rfl rfl rfl (rest := _) (Nat.le_of_ble_eq_true rfl) (Nat.zero_le _) (Nat.zero_le _) ?_
        refine sp_9003 hE hPa  ?_
        refine us_iload_n hR dX4_expression_34 rfl ?_
        refine us_icmp_ne hR dX4_expression_35 174 (by decide) (fun c11 => ?_) (fun c11 => ?_)
        · rw [if_neg c11] at ho
          refine us_vret hR dX4_expression_174 rfl ?_
          cases ho
          exact h2 _ hPa hFa
        · rw [if_pos c11] at ho
          refine us_aload_n hR dX4_expression_38 rfl ?_
          refine us_getIx hR dX4_expression_39 fR_5_46 (ev_k2 hE) rfl (Rep_v hPa 2 (by decide)) ?_
          refine us_istore_n hR dX4_expression_42 (Nat.le_of_ble_eq_true rfl) ?_
          refine us_aload_n hR dX4_expression_43 rfl ?_
          refine us_callV hR dX4_expression_44 (y := 5003) (by decide +kernel) (by decide) (J := i5003) rfl rfl rfl rfl (ev_k2 hE) rfl (Nat.le_of_ble_eq_true rfl) (Nat.zero_le _) (Nat.zero_le _) ?_
          refine sp_5003 hE hL hPa  ?_
          refine us_istore hR dX4_expression_47 (Nat.le_of_ble_eq_true rfl) ?_
          refine us_aload_n hR dX4_expression_49 rfl ?_
          refine us_dup hR dX4_expression_50 rfl ?_
          refine us_getIx hR dX4_expression_51 fR_5_46 (ev_k2 hE) rfl (Rep_v hPa 2 (by decide)) ?_
          refine us_iconstC hR dX4_expression_54 (c := 1) (by decide) ?_
          refine us_iadd hR dX4_expression_55 ?_
          refine us_putIx hE hPa 2 (by decide) hR dX4_expression_56 fR_5_46 (Or.inl rfl) (ev_k2 hE) rfl rfl (fun I13 s13 hs13 hP13 hF13 => ?_)
          rw [← hs13, bS_eq] at ho
          have hF13 := hFa.tr hF13
          refine us_iload hR dX4_expression_59 rfl ?_
          refine us_bipushC hR dX4_expression_61 (c := 23) (by decide) ?_
          refine us_icmp_eq hR dX4_expression_63 73 (by decide) (fun c14 => ?_) (fun c14 => ?_)
          · rw [if_pos c14] at ho
            exact h5018_J73 l1 l2 (s.2 2) (f_5003 s) _ s13 I13 _ _ hP13 hF13 ho
          · rw [if_neg c14] at ho
            refine us_iload hR dX4_expression_66 rfl ?_
            refine us_bipushC hR dX4_expression_68 (c := 24) (by decide) ?_
            refine us_icmp_ne hR dX4_expression_70 149 (by decide) (fun c15 => ?_) (fun c15 => ?_)
            · rw [if_neg c15] at ho
              refine us_aload_n hR dX4_expression_149 rfl ?_
              refine us_iload_n hR dX4_expression_150 rfl ?_
              refine us_iconstC hR dX4_expression_151 (c := 1) (by decide) ?_
              refine us_iadd hR dX4_expression_152 ?_
              refine us_callV hR dX4_expression_153 (y := 5018) (by decide +kernel) (by decide) (J := i5018) rfl rfl rfl rfl (ev_k2 hE) rfl (Nat.le_of_ble_eq_true rfl) (Nat.zero_le _) (Nat.zero_le _) ?_
              obtain ⟨s16, hs16⟩ := bOv_ex ho
              replace ho := bOv_go ho hs16
              refine hrec1 5018 (by decide) hP13 hs16 (fun I16 hP16 hF16 => ?_)
              have hF16 := hF13.tr hF16
              refine us_aload_n hR dX4_expression_156 rfl ?_
              refine us_getR hR dX4_expression_157 fR_5_32 (ev_k2 hE) rfl hL.1 ?_
              refine us_bipushC hR dX4_expression_160 (c := 9) (by decide) ?_
              refine us_iload hR dX4_expression_162 rfl ?_
              refine us_callV hR dX4_expression_164 (y := 4005) (by decide +kernel) (by decide) (J := i4005) rfl rfl rfl rfl (ev_k0 hE) rfl (Nat.le_of_ble_eq_true rfl) (Nat.zero_le _) (Nat.zero_le _) ?_
              refine sp_4005 hE hP16  (fun I17 q17 hs17 hP17 hF17 => ?_)
              rw [← hs17] at ho
              obtain ⟨s17, r17⟩ := q17
              rw [bT_eq] at ho
              have hF17 := hF16.tr hF17
              refine us_pop hR dX4_expression_167 rfl ?_
              refine us_iincC hR dX4_expression_168 rfl (Nat.le_of_ble_eq_true rfl) (c := 1) (by decide) ?_
              refine us_goto hR dX4_expression_171 20 (by decide) ?_
              exact ih20 l1 (l2 + 1) _ _ _ s17 I17 _ _ hP17 hF17 ho
            · rw [if_pos c15] at ho
              exact h5018_J73 l1 l2 (s.2 2) (f_5003 s) _ s13 I13 _ _ hP13 hF13 ho
  refine us_iload_n hR dX4_expression_0 rfl ?_
  refine us_bipushC hR dX4_expression_1 (c := 7) (by decide) ?_
  refine us_icmp_lt hR dX4_expression_3 11 (by decide) (fun c18 => ?_) (fun c18 => ?_)
  · rw [if_pos c18] at ho
    refine us_aload_n hR dX4_expression_11 rfl ?_
    refine us_iload_n hR dX4_expression_12 rfl ?_
    refine us_iconstC hR dX4_expression_13 (c := 1) (by decide) ?_
    refine us_iadd hR dX4_expression_14 ?_
    refine us_callV hR dX4_expression_15 (y := 5018) (by decide +kernel) (by decide) (J := i5018) rfl rfl rfl rfl (ev_k2 hE) rfl (Nat.le_of_ble_eq_true rfl) (Nat.zero_le _) (Nat.zero_le _) ?_
    obtain ⟨s19, hs19⟩ := bOv_ex ho
    replace ho := bOv_go ho hs19
    refine hrec1 5018 (by decide) hP hs19 (fun I19 hP19 hF19 => ?_)
    have hF19 := hF.tr hF19
    refine us_iconstC hR dX4_expression_18 (c := 0) (by decide) ?_
    refine us_istore_n hR dX4_expression_19 (Nat.le_of_ble_eq_true rfl) ?_
    exact h5018_L20 _ x0 0 _ _ _ s19 I19 _ _ hP19 hF19 ho
  · rw [if_neg c18] at ho
    refine us_aload_n hR dX4_expression_6 rfl ?_
    refine us_callV hR dX4_expression_7 (y := 5019) (by decide +kernel) (by decide) (J := i5019) rfl rfl rfl rfl (ev_k2 hE) rfl (Nat.le_of_ble_eq_true rfl) (Nat.zero_le _) (Nat.zero_le _) ?_
    obtain ⟨s20, hs20⟩ := bOv_ex ho
    replace ho := bOv_go ho hs20
    refine hrec0 5019 (by decide) hP hs20 (fun I20 hP20 hF20 => ?_)
    have hF20 := hF.tr hF20
    refine us_vret hR dX4_expression_10 rfl ?_
    cases ho
    exact h2 _ hP20 hF20
