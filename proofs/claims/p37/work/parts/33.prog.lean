/-! shadows of the program and the run (written by shadow.py) -/
def f_4001  (s : Sx) : Sx :=
  bS (sB s 5 []) fun s1 =>
  bS (sB s1 6 []) fun s2 =>
  bS (sB s2 7 []) fun s3 =>
  bS (sB s3 8 []) fun s4 =>
  bS (sB s4 9 []) fun s5 =>
  bS (sB s5 10 []) fun s6 =>
  bS (sB s6 11 []) fun s7 =>
  bS (sB s7 12 []) fun s8 =>
  bS (sV s8 0 0) fun s9 =>
  s9
theorem sp_4001 {d : Nat} {G : ab_G} {ad : Nat → Nat} {I : Nat → Nat → Int32} {s : Sx} {P : ab_Pq} {X : ab_Xq} (hE : EV G ad) (hP : Rep I ad s)   (h : ∀ I1 o, o = f_4001 s → Rep I1 ad o → FrE ad I I1 → P (gW G I1) none) : ab_Gam (d + 2) 4001 [.ref (ad 0)] (gW G I) P X := by
  obtain ⟨o, ho⟩ : ∃ o, o = f_4001 s := ⟨_, rfl⟩
  have h2 := fun I1 => h I1 o ho
  have hF : FrE ad I I := FrE_rfl
  unfold f_4001 at ho
  refine ab_enter (I := i4001) rfl (Nat.le_of_ble_eq_true rfl) (fun R hR => ?_)
  refine us_aload_n hR dX3_begin_0 rfl ?_
  refine us_getR hR dX3_begin_1 fR_4_23 (ev_k0 hE) rfl (ev_r_0_1 hE) ?_
  refine us_callV hR dX3_begin_4 (y := 6008) (by decide +kernel) (by decide) (J := i6008) rfl rfl rfl rfl (ev_rk hE (by decide)) rfl (Nat.le_of_ble_eq_true rfl) (Nat.zero_le _) (Nat.zero_le _) ?_
  refine cR_empty hE hP 5 (by decide) (fun I1 s1 hs1 hP1 hF1 => ?_)
  rw [← hs1, bS_eq] at ho
  have hF1 := hF.tr hF1
  refine us_aload_n hR dX3_begin_7 rfl ?_
  refine us_getR hR dX3_begin_8 fR_4_27 (ev_k0 hE) rfl (ev_r_0_2 hE) ?_
  refine us_callV hR dX3_begin_11 (y := 6008) (by decide +kernel) (by decide) (J := i6008) rfl rfl rfl rfl (ev_rk hE (by decide)) rfl (Nat.le_of_ble_eq_true rfl) (Nat.zero_le _) (Nat.zero_le _) ?_
  refine cR_empty hE hP1 6 (by decide) (fun I2 s2 hs2 hP2 hF2 => ?_)
  rw [← hs2, bS_eq] at ho
  have hF2 := hF1.tr hF2
  refine us_aload_n hR dX3_begin_14 rfl ?_
  refine us_getR hR dX3_begin_15 fR_4_30 (ev_k0 hE) rfl (ev_r_0_3 hE) ?_
  refine us_callV hR dX3_begin_18 (y := 6008) (by decide +kernel) (by decide) (J := i6008) rfl rfl rfl rfl (ev_rk hE (by decide)) rfl (Nat.le_of_ble_eq_true rfl) (Nat.zero_le _) (Nat.zero_le _) ?_
  refine cR_empty hE hP2 7 (by decide) (fun I3 s3 hs3 hP3 hF3 => ?_)
  rw [← hs3, bS_eq] at ho
  have hF3 := hF2.tr hF3
  refine us_aload_n hR dX3_begin_21 rfl ?_
  refine us_getR hR dX3_begin_22 fR_4_33 (ev_k0 hE) rfl (ev_r_0_4 hE) ?_
  refine us_callV hR dX3_begin_25 (y := 6008) (by decide +kernel) (by decide) (J := i6008) rfl rfl rfl rfl (ev_rk hE (by decide)) rfl (Nat.le_of_ble_eq_true rfl) (Nat.zero_le _) (Nat.zero_le _) ?_
  refine cR_empty hE hP3 8 (by decide) (fun I4 s4 hs4 hP4 hF4 => ?_)
  rw [← hs4, bS_eq] at ho
  have hF4 := hF3.tr hF4
  refine us_aload_n hR dX3_begin_28 rfl ?_
  refine us_getR hR dX3_begin_29 fR_4_36 (ev_k0 hE) rfl (ev_r_0_5 hE) ?_
  refine us_callV hR dX3_begin_32 (y := 6008) (by decide +kernel) (by decide) (J := i6008) rfl rfl rfl rfl (ev_rk hE (by decide)) rfl (Nat.le_of_ble_eq_true rfl) (Nat.zero_le _) (Nat.zero_le _) ?_
  refine cR_empty hE hP4 9 (by decide) (fun I5 s5 hs5 hP5 hF5 => ?_)
  rw [← hs5, bS_eq] at ho
  have hF5 := hF4.tr hF5
  refine us_aload_n hR dX3_begin_35 rfl ?_
  refine us_getR hR dX3_begin_36 fR_4_39 (ev_k0 hE) rfl (ev_r_0_6 hE) ?_
  refine us_callV hR dX3_begin_39 (y := 6008) (by decide +kernel) (by decide) (J := i6008) rfl rfl rfl rfl (ev_rk hE (by decide)) rfl (Nat.le_of_ble_eq_true rfl) (Nat.zero_le _) (Nat.zero_le _) ?_
  refine cR_empty hE hP5 10 (by decide) (fun I6 s6 hs6 hP6 hF6 => ?_)
  rw [← hs6, bS_eq] at ho
  have hF6 := hF5.tr hF6
  refine us_aload_n hR dX3_begin_42 rfl ?_
  refine us_getR hR dX3_begin_43 fR_4_42 (ev_k0 hE) rfl (ev_r_0_7 hE) ?_
  refine us_callV hR dX3_begin_46 (y := 6008) (by decide +kernel) (by decide) (J := i6008) rfl rfl rfl rfl (ev_rk hE (by decide)) rfl (Nat.le_of_ble_eq_true rfl) (Nat.zero_le _) (Nat.zero_le _) ?_
  refine cR_empty hE hP6 11 (by decide) (fun I7 s7 hs7 hP7 hF7 => ?_)
  rw [← hs7, bS_eq] at ho
  have hF7 := hF6.tr hF7
  refine us_aload_n hR dX3_begin_49 rfl ?_
  refine us_getR hR dX3_begin_50 fR_4_45 (ev_k0 hE) rfl (ev_r_0_8 hE) ?_
  refine us_callV hR dX3_begin_53 (y := 6008) (by decide +kernel) (by decide) (J := i6008) rfl rfl rfl rfl (ev_rk hE (by decide)) rfl (Nat.le_of_ble_eq_true rfl) (Nat.zero_le _) (Nat.zero_le _) ?_
  refine cR_empty hE hP7 12 (by decide) (fun I8 s8 hs8 hP8 hF8 => ?_)
  rw [← hs8, bS_eq] at ho
  have hF8 := hF7.tr hF8
  refine us_aload_n hR dX3_begin_56 rfl ?_
  refine us_iconstC hR dX3_begin_57 (c := 0) (by decide) ?_
  refine us_putIx hE hP8 0 (by decide) hR dX3_begin_58 fR_4_48 (Or.inl rfl) (ev_k0 hE) rfl rfl (fun I9 s9 hs9 hP9 hF9 => ?_)
  rw [← hs9, bS_eq] at ho
  have hF9 := hF8.tr hF9
  refine us_vret hR dX3_begin_61 rfl ?_
  subst ho
  exact h2 _ hP9 hF9
def f_4002 (x0 : Int32) (s : Sx) : Sx × Int32 :=
  bS (sB s 5 (xadd (ev_cap 5) (s.1 5) x0)) fun s1 =>
  bS (sB s1 6 (xadd (ev_cap 6) (s1.1 6) x0)) fun s2 =>
  (s2, ((nI (s2.1 5).length) - 1))
theorem sp_4002 {d : Nat} {G : ab_G} {ad : Nat → Nat} {I : Nat → Nat → Int32} {s : Sx} {P : ab_Pq} {X : ab_Xq} (hE : EV G ad) (hP : Rep I ad s) {x0 : Int32}  (h : ∀ I1 o, o = f_4002 x0 s → Rep I1 ad o.1 → FrE ad I I1 → P (gW G I1) (some (.int o.2))) : ab_Gam (d + 2) 4002 [.ref (ad 0), .int x0] (gW G I) P X := by
  obtain ⟨o, ho⟩ : ∃ o, o = f_4002 x0 s := ⟨_, rfl⟩
  have h2 := fun I1 => h I1 o ho
  have hF : FrE ad I I := FrE_rfl
  unfold f_4002 at ho
  refine ab_enter (I := i4002) rfl (Nat.le_of_ble_eq_true rfl) (fun R hR => ?_)
  refine us_aload_n hR dX3_beginPart_0 rfl ?_
  refine us_getR hR dX3_beginPart_1 fR_4_23 (ev_k0 hE) rfl (ev_r_0_1 hE) ?_
  refine us_iload_n hR dX3_beginPart_4 rfl ?_
  refine us_callV hR dX3_beginPart_5 (y := 6004) (by decide +kernel) (by decide) (J := i6004) rfl rfl rfl rfl (ev_rk hE (by decide)) rfl (Nat.le_of_ble_eq_true rfl) (Nat.zero_le _) (Nat.zero_le _) ?_
  refine cR_add hE hP 5 (by decide) (fun I1 s1 hs1 hP1 hF1 => ?_)
  rw [← hs1, bS_eq] at ho
  have hF1 := hF.tr hF1
  refine us_aload_n hR dX3_beginPart_8 rfl ?_
  refine us_getR hR dX3_beginPart_9 fR_4_27 (ev_k0 hE) rfl (ev_r_0_2 hE) ?_
  refine us_iload_n hR dX3_beginPart_12 rfl ?_
  refine us_callV hR dX3_beginPart_13 (y := 6004) (by decide +kernel) (by decide) (J := i6004) rfl rfl rfl rfl (ev_rk hE (by decide)) rfl (Nat.le_of_ble_eq_true rfl) (Nat.zero_le _) (Nat.zero_le _) ?_
  refine cR_add hE hP1 6 (by decide) (fun I2 s2 hs2 hP2 hF2 => ?_)
  rw [← hs2, bS_eq] at ho
  have hF2 := hF1.tr hF2
  refine us_aload_n hR dX3_beginPart_16 rfl ?_
  refine us_getR hR dX3_beginPart_17 fR_4_23 (ev_k0 hE) rfl (ev_r_0_1 hE) ?_
  refine us_callV hR dX3_beginPart_20 (y := 6001) (by decide +kernel) (by decide) (J := i6001) rfl rfl rfl rfl (ev_rk hE (by decide)) rfl (Nat.le_of_ble_eq_true rfl) (Nat.zero_le _) (Nat.zero_le _) ?_
  refine cR_size hE hP2 5 (by decide) ?_
  refine us_iconstC hR dX3_beginPart_23 (c := 1) (by decide) ?_
  refine us_isub hR dX3_beginPart_24 ?_
  refine us_iret hR dX3_beginPart_25 rfl rfl ?_
  subst ho
  exact h2 _ hP2 hF2
def f_4003 (x0 : Int32) (x1 : Int32) (s : Sx) : Sx :=
  bS (sB s 6 (xset (s.1 6) x0 x1)) fun s1 =>
  s1
theorem sp_4003 {d : Nat} {G : ab_G} {ad : Nat → Nat} {I : Nat → Nat → Int32} {s : Sx} {P : ab_Pq} {X : ab_Xq} (hE : EV G ad) (hP : Rep I ad s) {x0 : Int32} {x1 : Int32}  (h : ∀ I1 o, o = f_4003 x0 x1 s → Rep I1 ad o → FrE ad I I1 → P (gW G I1) none) : ab_Gam (d + 2) 4003 [.ref (ad 0), .int x0, .int x1] (gW G I) P X := by
  obtain ⟨o, ho⟩ : ∃ o, o = f_4003 x0 x1 s := ⟨_, rfl⟩
  have h2 := fun I1 => h I1 o ho
  have hF : FrE ad I I := FrE_rfl
  unfold f_4003 at ho
  refine ab_enter (I := i4003) rfl (Nat.le_of_ble_eq_true rfl) (fun R hR => ?_)
  refine us_aload_n hR dX3_endPart_0 rfl ?_
  refine us_getR hR dX3_endPart_1 fR_4_27 (ev_k0 hE) rfl (ev_r_0_2 hE) ?_
  refine us_iload_n hR dX3_endPart_4 rfl ?_
  refine us_iload_n hR dX3_endPart_5 rfl ?_
  refine us_callV hR dX3_endPart_6 (y := 6003) (by decide +kernel) (by decide) (J := i6003) rfl rfl rfl rfl (ev_rk hE (by decide)) rfl (Nat.le_of_ble_eq_true rfl) (Nat.zero_le _) (Nat.zero_le _) ?_
  refine cR_set hE hP 6 (by decide) (fun I1 s1 hs1 hP1 hF1 => ?_)
  rw [← hs1, bS_eq] at ho
  have hF1 := hF.tr hF1
  refine us_vret hR dX3_endPart_9 rfl ?_
  subst ho
  exact h2 _ hP1 hF1
def f_4004  (s : Sx) : Int32 :=
  (nI (s.1 5).length)
theorem sp_4004 {d : Nat} {G : ab_G} {ad : Nat → Nat} {I : Nat → Nat → Int32} {s : Sx} {P : ab_Pq} {X : ab_Xq} (hE : EV G ad) (hP : Rep I ad s)   (h : P (gW G I) (some (.int (f_4004 s)))) : ab_Gam (d + 2) 4004 [.ref (ad 0)] (gW G I) P X := by
  obtain ⟨o, ho⟩ : ∃ o, o = f_4004 s := ⟨_, rfl⟩
  rw [← ho] at h
  have h2 := h
  have hF : FrE ad I I := FrE_rfl
  unfold f_4004 at ho
  refine ab_enter (I := i4004) rfl (Nat.le_of_ble_eq_true rfl) (fun R hR => ?_)
  refine us_aload_n hR dX3_partCount_0 rfl ?_
  refine us_getR hR dX3_partCount_1 fR_4_23 (ev_k0 hE) rfl (ev_r_0_1 hE) ?_
  refine us_callV hR dX3_partCount_4 (y := 6001) (by decide +kernel) (by decide) (J := i6001) rfl rfl rfl rfl (ev_rk hE (by decide)) rfl (Nat.le_of_ble_eq_true rfl) (Nat.zero_le _) (Nat.zero_le _) ?_
  refine cR_size hE hP 5 (by decide) ?_
  refine us_iret hR dX3_partCount_7 rfl rfl ?_
  subst ho
  exact h2
def f_4005 (x0 : Int32) (x1 : Int32) (s : Sx) : Sx × Int32 :=
  bS (sB s 7 (xadd (ev_cap 7) (s.1 7) x0)) fun s1 =>
  bS (sB s1 8 (xadd (ev_cap 8) (s1.1 8) x1)) fun s2 =>
  (s2, ((nI (s2.1 7).length) - 1))
theorem sp_4005 {d : Nat} {G : ab_G} {ad : Nat → Nat} {I : Nat → Nat → Int32} {s : Sx} {P : ab_Pq} {X : ab_Xq} (hE : EV G ad) (hP : Rep I ad s) {x0 : Int32} {x1 : Int32}  (h : ∀ I1 o, o = f_4005 x0 x1 s → Rep I1 ad o.1 → FrE ad I I1 → P (gW G I1) (some (.int o.2))) : ab_Gam (d + 2) 4005 [.ref (ad 0), .int x0, .int x1] (gW G I) P X := by
  obtain ⟨o, ho⟩ : ∃ o, o = f_4005 x0 x1 s := ⟨_, rfl⟩
  have h2 := fun I1 => h I1 o ho
  have hF : FrE ad I I := FrE_rfl
  unfold f_4005 at ho
  refine ab_enter (I := i4005) rfl (Nat.le_of_ble_eq_true rfl) (fun R hR => ?_)
  refine us_aload_n hR dX3_addCode_0 rfl ?_
  refine us_getR hR dX3_addCode_1 fR_4_30 (ev_k0 hE) rfl (ev_r_0_3 hE) ?_
  refine us_iload_n hR dX3_addCode_4 rfl ?_
  refine us_callV hR dX3_addCode_5 (y := 6004) (by decide +kernel) (by decide) (J := i6004) rfl rfl rfl rfl (ev_rk hE (by decide)) rfl (Nat.le_of_ble_eq_true rfl) (Nat.zero_le _) (Nat.zero_le _) ?_
  refine cR_add hE hP 7 (by decide) (fun I1 s1 hs1 hP1 hF1 => ?_)
  rw [← hs1, bS_eq] at ho
  have hF1 := hF.tr hF1
  refine us_aload_n hR dX3_addCode_8 rfl ?_
  refine us_getR hR dX3_addCode_9 fR_4_33 (ev_k0 hE) rfl (ev_r_0_4 hE) ?_
  refine us_iload_n hR dX3_addCode_12 rfl ?_
  refine us_callV hR dX3_addCode_13 (y := 6004) (by decide +kernel) (by decide) (J := i6004) rfl rfl rfl rfl (ev_rk hE (by decide)) rfl (Nat.le_of_ble_eq_true rfl) (Nat.zero_le _) (Nat.zero_le _) ?_
  refine cR_add hE hP1 8 (by decide) (fun I2 s2 hs2 hP2 hF2 => ?_)
  rw [← hs2, bS_eq] at ho
  have hF2 := hF1.tr hF2
  refine us_aload_n hR dX3_addCode_16 rfl ?_
  refine us_getR hR dX3_addCode_17 fR_4_30 (ev_k0 hE) rfl (ev_r_0_3 hE) ?_
  refine us_callV hR dX3_addCode_20 (y := 6001) (by decide +kernel) (by decide) (J := i6001) rfl rfl rfl rfl (ev_rk hE (by decide)) rfl (Nat.le_of_ble_eq_true rfl) (Nat.zero_le _) (Nat.zero_le _) ?_
  refine cR_size hE hP2 7 (by decide) ?_
  refine us_iconstC hR dX3_addCode_23 (c := 1) (by decide) ?_
  refine us_isub hR dX3_addCode_24 ?_
  refine us_iret hR dX3_addCode_25 rfl rfl ?_
  subst ho
  exact h2 _ hP2 hF2
def f_4006  (s : Sx) : Int32 :=
  (nI (s.1 7).length)
theorem sp_4006 {d : Nat} {G : ab_G} {ad : Nat → Nat} {I : Nat → Nat → Int32} {s : Sx} {P : ab_Pq} {X : ab_Xq} (hE : EV G ad) (hP : Rep I ad s)   (h : P (gW G I) (some (.int (f_4006 s)))) : ab_Gam (d + 2) 4006 [.ref (ad 0)] (gW G I) P X := by
  obtain ⟨o, ho⟩ : ∃ o, o = f_4006 s := ⟨_, rfl⟩
  rw [← ho] at h
  have h2 := h
  have hF : FrE ad I I := FrE_rfl
  unfold f_4006 at ho
  refine ab_enter (I := i4006) rfl (Nat.le_of_ble_eq_true rfl) (fun R hR => ?_)
  refine us_aload_n hR dX3_codeCount_0 rfl ?_
  refine us_getR hR dX3_codeCount_1 fR_4_30 (ev_k0 hE) rfl (ev_r_0_3 hE) ?_
  refine us_callV hR dX3_codeCount_4 (y := 6001) (by decide +kernel) (by decide) (J := i6001) rfl rfl rfl rfl (ev_rk hE (by decide)) rfl (Nat.le_of_ble_eq_true rfl) (Nat.zero_le _) (Nat.zero_le _) ?_
  refine cR_size hE hP 7 (by decide) ?_
  refine us_iret hR dX3_codeCount_7 rfl rfl ?_
  subst ho
  exact h2
def f_4007 (x0 : Int32) (s : Sx) : Int32 :=
  (xg (s.1 7) x0)
theorem sp_4007 {d : Nat} {G : ab_G} {ad : Nat → Nat} {I : Nat → Nat → Int32} {s : Sx} {P : ab_Pq} {X : ab_Xq} (hE : EV G ad) (hP : Rep I ad s) {x0 : Int32}  (h : P (gW G I) (some (.int (f_4007 x0 s)))) : ab_Gam (d + 2) 4007 [.ref (ad 0), .int x0] (gW G I) P X := by
  obtain ⟨o, ho⟩ : ∃ o, o = f_4007 x0 s := ⟨_, rfl⟩
  rw [← ho] at h
  have h2 := h
  have hF : FrE ad I I := FrE_rfl
  unfold f_4007 at ho
  refine ab_enter (I := i4007) rfl (Nat.le_of_ble_eq_true rfl) (fun R hR => ?_)
  refine us_aload_n hR dX3_code_0 rfl ?_
  refine us_getR hR dX3_code_1 fR_4_30 (ev_k0 hE) rfl (ev_r_0_3 hE) ?_
  refine us_iload_n hR dX3_code_4 rfl ?_
  refine us_callV hR dX3_code_5 (y := 6002) (by decide +kernel) (by decide) (J := i6002) rfl rfl rfl rfl (ev_rk hE (by decide)) rfl (Nat.le_of_ble_eq_true rfl) (Nat.zero_le _) (Nat.zero_le _) ?_
  refine cR_get hE hP 7 (by decide) ?_
  refine us_iret hR dX3_code_8 rfl rfl ?_
  subst ho
  exact h2
def f_4008 (x0 : Int32) (s : Sx) : Int32 :=
  (xg (s.1 8) x0)
theorem sp_4008 {d : Nat} {G : ab_G} {ad : Nat → Nat} {I : Nat → Nat → Int32} {s : Sx} {P : ab_Pq} {X : ab_Xq} (hE : EV G ad) (hP : Rep I ad s) {x0 : Int32}  (h : P (gW G I) (some (.int (f_4008 x0 s)))) : ab_Gam (d + 2) 4008 [.ref (ad 0), .int x0] (gW G I) P X := by
  obtain ⟨o, ho⟩ : ∃ o, o = f_4008 x0 s := ⟨_, rfl⟩
  rw [← ho] at h
  have h2 := h
  have hF : FrE ad I I := FrE_rfl
  unfold f_4008 at ho
  refine ab_enter (I := i4008) rfl (Nat.le_of_ble_eq_true rfl) (fun R hR => ?_)
  refine us_aload_n hR dX3_operand_0 rfl ?_
  refine us_getR hR dX3_operand_1 fR_4_33 (ev_k0 hE) rfl (ev_r_0_4 hE) ?_
  refine us_iload_n hR dX3_operand_4 rfl ?_
  refine us_callV hR dX3_operand_5 (y := 6002) (by decide +kernel) (by decide) (J := i6002) rfl rfl rfl rfl (ev_rk hE (by decide)) rfl (Nat.le_of_ble_eq_true rfl) (Nat.zero_le _) (Nat.zero_le _) ?_
  refine cR_get hE hP 8 (by decide) ?_
  refine us_iret hR dX3_operand_8 rfl rfl ?_
  subst ho
  exact h2
def f_4009 (x0 : Int32) (x1 : Int32) (s : Sx) : Sx :=
  bS (sB s 8 (xset (s.1 8) x0 x1)) fun s1 =>
  s1
theorem sp_4009 {d : Nat} {G : ab_G} {ad : Nat → Nat} {I : Nat → Nat → Int32} {s : Sx} {P : ab_Pq} {X : ab_Xq} (hE : EV G ad) (hP : Rep I ad s) {x0 : Int32} {x1 : Int32}  (h : ∀ I1 o, o = f_4009 x0 x1 s → Rep I1 ad o → FrE ad I I1 → P (gW G I1) none) : ab_Gam (d + 2) 4009 [.ref (ad 0), .int x0, .int x1] (gW G I) P X := by
  obtain ⟨o, ho⟩ : ∃ o, o = f_4009 x0 x1 s := ⟨_, rfl⟩
  have h2 := fun I1 => h I1 o ho
  have hF : FrE ad I I := FrE_rfl
  unfold f_4009 at ho
  refine ab_enter (I := i4009) rfl (Nat.le_of_ble_eq_true rfl) (fun R hR => ?_)
  refine us_aload_n hR dX3_setOperand_0 rfl ?_
  refine us_getR hR dX3_setOperand_1 fR_4_33 (ev_k0 hE) rfl (ev_r_0_4 hE) ?_
  refine us_iload_n hR dX3_setOperand_4 rfl ?_
  refine us_iload_n hR dX3_setOperand_5 rfl ?_
  refine us_callV hR dX3_setOperand_6 (y := 6003) (by decide +kernel) (by decide) (J := i6003) rfl rfl rfl rfl (ev_rk hE (by decide)) rfl (Nat.le_of_ble_eq_true rfl) (Nat.zero_le _) (Nat.zero_le _) ?_
  refine cR_set hE hP 8 (by decide) (fun I1 s1 hs1 hP1 hF1 => ?_)
  rw [← hs1, bS_eq] at ho
  have hF1 := hF.tr hF1
  refine us_vret hR dX3_setOperand_9 rfl ?_
  subst ho
  exact h2 _ hP1 hF1
def f_4010 (x0 : Int32) (s : Sx) : Sx × Int32 :=
  bS (sB s 9 (xadd (ev_cap 9) (s.1 9) x0)) fun s1 =>
  bS (sB s1 10 (xadd (ev_cap 10) (s1.1 10) 0)) fun s2 =>
  bS (sB s2 11 (xadd (ev_cap 11) (s2.1 11) 0)) fun s3 =>
  bS (sB s3 12 (xadd (ev_cap 12) (s3.1 12) 0)) fun s4 =>
  (s4, ((nI (s4.1 9).length) - 1))
theorem sp_4010 {d : Nat} {G : ab_G} {ad : Nat → Nat} {I : Nat → Nat → Int32} {s : Sx} {P : ab_Pq} {X : ab_Xq} (hE : EV G ad) (hP : Rep I ad s) {x0 : Int32}  (h : ∀ I1 o, o = f_4010 x0 s → Rep I1 ad o.1 → FrE ad I I1 → P (gW G I1) (some (.int o.2))) : ab_Gam (d + 2) 4010 [.ref (ad 0), .int x0] (gW G I) P X := by
  obtain ⟨o, ho⟩ : ∃ o, o = f_4010 x0 s := ⟨_, rfl⟩
  have h2 := fun I1 => h I1 o ho
  have hF : FrE ad I I := FrE_rfl
  unfold f_4010 at ho
  refine ab_enter (I := i4010) rfl (Nat.le_of_ble_eq_true rfl) (fun R hR => ?_)
  refine us_aload_n hR dX3_addDef_0 rfl ?_
  refine us_getR hR dX3_addDef_1 fR_4_36 (ev_k0 hE) rfl (ev_r_0_5 hE) ?_
  refine us_iload_n hR dX3_addDef_4 rfl ?_
  refine us_callV hR dX3_addDef_5 (y := 6004) (by decide +kernel) (by decide) (J := i6004) rfl rfl rfl rfl (ev_rk hE (by decide)) rfl (Nat.le_of_ble_eq_true rfl) (Nat.zero_le _) (Nat.zero_le _) ?_
  refine cR_add hE hP 9 (by decide) (fun I1 s1 hs1 hP1 hF1 => ?_)
  rw [← hs1, bS_eq] at ho
  have hF1 := hF.tr hF1
  refine us_aload_n hR dX3_addDef_8 rfl ?_
  refine us_getR hR dX3_addDef_9 fR_4_39 (ev_k0 hE) rfl (ev_r_0_6 hE) ?_
  refine us_iconstC hR dX3_addDef_12 (c := 0) (by decide) ?_
  refine us_callV hR dX3_addDef_13 (y := 6004) (by decide +kernel) (by decide) (J := i6004) rfl rfl rfl rfl (ev_rk hE (by decide)) rfl (Nat.le_of_ble_eq_true rfl) (Nat.zero_le _) (Nat.zero_le _) ?_
  refine cR_add hE hP1 10 (by decide) (fun I2 s2 hs2 hP2 hF2 => ?_)
  rw [← hs2, bS_eq] at ho
  have hF2 := hF1.tr hF2
  refine us_aload_n hR dX3_addDef_16 rfl ?_
  refine us_getR hR dX3_addDef_17 fR_4_42 (ev_k0 hE) rfl (ev_r_0_7 hE) ?_
  refine us_iconstC hR dX3_addDef_20 (c := 0) (by decide) ?_
  refine us_callV hR dX3_addDef_21 (y := 6004) (by decide +kernel) (by decide) (J := i6004) rfl rfl rfl rfl (ev_rk hE (by decide)) rfl (Nat.le_of_ble_eq_true rfl) (Nat.zero_le _) (Nat.zero_le _) ?_
  refine cR_add hE hP2 11 (by decide) (fun I3 s3 hs3 hP3 hF3 => ?_)
  rw [← hs3, bS_eq] at ho
  have hF3 := hF2.tr hF3
  refine us_aload_n hR dX3_addDef_24 rfl ?_
  refine us_getR hR dX3_addDef_25 fR_4_45 (ev_k0 hE) rfl (ev_r_0_8 hE) ?_
  refine us_iconstC hR dX3_addDef_28 (c := 0) (by decide) ?_
  refine us_callV hR dX3_addDef_29 (y := 6004) (by decide +kernel) (by decide) (J := i6004) rfl rfl rfl rfl (ev_rk hE (by decide)) rfl (Nat.le_of_ble_eq_true rfl) (Nat.zero_le _) (Nat.zero_le _) ?_
  refine cR_add hE hP3 12 (by decide) (fun I4 s4 hs4 hP4 hF4 => ?_)
  rw [← hs4, bS_eq] at ho
  have hF4 := hF3.tr hF4
  refine us_aload_n hR dX3_addDef_32 rfl ?_
  refine us_getR hR dX3_addDef_33 fR_4_36 (ev_k0 hE) rfl (ev_r_0_5 hE) ?_
  refine us_callV hR dX3_addDef_36 (y := 6001) (by decide +kernel) (by decide) (J := i6001) rfl rfl rfl rfl (ev_rk hE (by decide)) rfl (Nat.le_of_ble_eq_true rfl) (Nat.zero_le _) (Nat.zero_le _) ?_
  refine cR_size hE hP4 9 (by decide) ?_
  refine us_iconstC hR dX3_addDef_39 (c := 1) (by decide) ?_
  refine us_isub hR dX3_addDef_40 ?_
  refine us_iret hR dX3_addDef_41 rfl rfl ?_
  subst ho
  exact h2 _ hP4 hF4
def f_4011 (x0 : Int32) (x1 : Int32) (x2 : Int32) (x3 : Int32) (s : Sx) : Sx :=
  bS (sB s 10 (xset (s.1 10) x0 x1)) fun s1 =>
  bS (sB s1 11 (xset (s1.1 11) x0 x2)) fun s2 =>
  bS (sB s2 12 (xset (s2.1 12) x0 x3)) fun s3 =>
  s3
theorem sp_4011 {d : Nat} {G : ab_G} {ad : Nat → Nat} {I : Nat → Nat → Int32} {s : Sx} {P : ab_Pq} {X : ab_Xq} (hE : EV G ad) (hP : Rep I ad s) {x0 : Int32} {x1 : Int32} {x2 : Int32} {x3 : Int32}  (h : ∀ I1 o, o = f_4011 x0 x1 x2 x3 s → Rep I1 ad o → FrE ad I I1 → P (gW G I1) none) : ab_Gam (d + 2) 4011 [.ref (ad 0), .int x0, .int x1, .int x2, .int x3] (gW G I) P X := by
  obtain ⟨o, ho⟩ : ∃ o, o = f_4011 x0 x1 x2 x3 s := ⟨_, rfl⟩
  have h2 := fun I1 => h I1 o ho
  have hF : FrE ad I I := FrE_rfl
  unfold f_4011 at ho
  refine ab_enter (I := i4011) rfl (Nat.le_of_ble_eq_true rfl) (fun R hR => ?_)
  refine us_aload_n hR dX3_setDef_0 rfl ?_
  refine us_getR hR dX3_setDef_1 fR_4_39 (ev_k0 hE) rfl (ev_r_0_6 hE) ?_
  refine us_iload_n hR dX3_setDef_4 rfl ?_
  refine us_iload_n hR dX3_setDef_5 rfl ?_
  refine us_callV hR dX3_setDef_6 (y := 6003) (by decide +kernel) (by decide) (J := i6003) rfl rfl rfl rfl (ev_rk hE (by decide)) rfl (Nat.le_of_ble_eq_true rfl) (Nat.zero_le _) (Nat.zero_le _) ?_
  refine cR_set hE hP 10 (by decide) (fun I1 s1 hs1 hP1 hF1 => ?_)
  rw [← hs1, bS_eq] at ho
  have hF1 := hF.tr hF1
  refine us_aload_n hR dX3_setDef_9 rfl ?_
  refine us_getR hR dX3_setDef_10 fR_4_42 (ev_k0 hE) rfl (ev_r_0_7 hE) ?_
  refine us_iload_n hR dX3_setDef_13 rfl ?_
  refine us_iload_n hR dX3_setDef_14 rfl ?_
  refine us_callV hR dX3_setDef_15 (y := 6003) (by decide +kernel) (by decide) (J := i6003) rfl rfl rfl rfl (ev_rk hE (by decide)) rfl (Nat.le_of_ble_eq_true rfl) (Nat.zero_le _) (Nat.zero_le _) ?_
  refine cR_set hE hP1 11 (by decide) (fun I2 s2 hs2 hP2 hF2 => ?_)
  rw [← hs2, bS_eq] at ho
  have hF2 := hF1.tr hF2
  refine us_aload_n hR dX3_setDef_18 rfl ?_
  refine us_getR hR dX3_setDef_19 fR_4_45 (ev_k0 hE) rfl (ev_r_0_8 hE) ?_
  refine us_iload_n hR dX3_setDef_22 rfl ?_
  refine us_iload hR dX3_setDef_23 rfl ?_
  refine us_callV hR dX3_setDef_25 (y := 6003) (by decide +kernel) (by decide) (J := i6003) rfl rfl rfl rfl (ev_rk hE (by decide)) rfl (Nat.le_of_ble_eq_true rfl) (Nat.zero_le _) (Nat.zero_le _) ?_
  refine cR_set hE hP2 12 (by decide) (fun I3 s3 hs3 hP3 hF3 => ?_)
  rw [← hs3, bS_eq] at ho
  have hF3 := hF2.tr hF3
  refine us_vret hR dX3_setDef_28 rfl ?_
  subst ho
  exact h2 _ hP3 hF3
def f_4012 (x0 : Int32) (s : Sx) : Int32 :=
  (xpos (s.1 9) x0)
theorem sp_4012 {d : Nat} {G : ab_G} {ad : Nat → Nat} {I : Nat → Nat → Int32} {s : Sx} {P : ab_Pq} {X : ab_Xq} (hE : EV G ad) (hP : Rep I ad s) {x0 : Int32}  (h : P (gW G I) (some (.int (f_4012 x0 s)))) : ab_Gam (d + 2) 4012 [.ref (ad 0), .int x0] (gW G I) P X := by
  obtain ⟨o, ho⟩ : ∃ o, o = f_4012 x0 s := ⟨_, rfl⟩
  rw [← ho] at h
  have h2 := h
  have hF : FrE ad I I := FrE_rfl
  unfold f_4012 at ho
  refine ab_enter (I := i4012) rfl (Nat.le_of_ble_eq_true rfl) (fun R hR => ?_)
  refine us_aload_n hR dX3_defNamed_0 rfl ?_
  refine us_getR hR dX3_defNamed_1 fR_4_36 (ev_k0 hE) rfl (ev_r_0_5 hE) ?_
  refine us_iload_n hR dX3_defNamed_4 rfl ?_
  refine us_callV hR dX3_defNamed_5 (y := 6010) (by decide +kernel) (by decide) (J := i6010) rfl rfl rfl rfl (ev_rk hE (by decide)) rfl (Nat.le_of_ble_eq_true rfl) (Nat.zero_le _) (Nat.zero_le _) ?_
  refine cR_placeOf hE hP 9 (by decide) ?_
  refine us_iret hR dX3_defNamed_8 rfl rfl ?_
  subst ho
  exact h2
def f_4013 (x0 : Int32) (s : Sx) : Int32 :=
  (xg (s.1 10) x0)
theorem sp_4013 {d : Nat} {G : ab_G} {ad : Nat → Nat} {I : Nat → Nat → Int32} {s : Sx} {P : ab_Pq} {X : ab_Xq} (hE : EV G ad) (hP : Rep I ad s) {x0 : Int32}  (h : P (gW G I) (some (.int (f_4013 x0 s)))) : ab_Gam (d + 2) 4013 [.ref (ad 0), .int x0] (gW G I) P X := by
  obtain ⟨o, ho⟩ : ∃ o, o = f_4013 x0 s := ⟨_, rfl⟩
  rw [← ho] at h
  have h2 := h
  have hF : FrE ad I I := FrE_rfl
  unfold f_4013 at ho
  refine ab_enter (I := i4013) rfl (Nat.le_of_ble_eq_true rfl) (fun R hR => ?_)
  refine us_aload_n hR dX3_parameters_0 rfl ?_
  refine us_getR hR dX3_parameters_1 fR_4_39 (ev_k0 hE) rfl (ev_r_0_6 hE) ?_
  refine us_iload_n hR dX3_parameters_4 rfl ?_
  refine us_callV hR dX3_parameters_5 (y := 6002) (by decide +kernel) (by decide) (J := i6002) rfl rfl rfl rfl (ev_rk hE (by decide)) rfl (Nat.le_of_ble_eq_true rfl) (Nat.zero_le _) (Nat.zero_le _) ?_
  refine cR_get hE hP 10 (by decide) ?_
  refine us_iret hR dX3_parameters_8 rfl rfl ?_
  subst ho
  exact h2
def f_4014 (x0 : Int32) (s : Sx) : Int32 :=
  (xg (s.1 11) x0)
theorem sp_4014 {d : Nat} {G : ab_G} {ad : Nat → Nat} {I : Nat → Nat → Int32} {s : Sx} {P : ab_Pq} {X : ab_Xq} (hE : EV G ad) (hP : Rep I ad s) {x0 : Int32}  (h : P (gW G I) (some (.int (f_4014 x0 s)))) : ab_Gam (d + 2) 4014 [.ref (ad 0), .int x0] (gW G I) P X := by
  obtain ⟨o, ho⟩ : ∃ o, o = f_4014 x0 s := ⟨_, rfl⟩
  rw [← ho] at h
  have h2 := h
  have hF : FrE ad I I := FrE_rfl
  unfold f_4014 at ho
  refine ab_enter (I := i4014) rfl (Nat.le_of_ble_eq_true rfl) (fun R hR => ?_)
  refine us_aload_n hR dX3_block_0 rfl ?_
  refine us_getR hR dX3_block_1 fR_4_42 (ev_k0 hE) rfl (ev_r_0_7 hE) ?_
  refine us_iload_n hR dX3_block_4 rfl ?_
  refine us_callV hR dX3_block_5 (y := 6002) (by decide +kernel) (by decide) (J := i6002) rfl rfl rfl rfl (ev_rk hE (by decide)) rfl (Nat.le_of_ble_eq_true rfl) (Nat.zero_le _) (Nat.zero_le _) ?_
  refine cR_get hE hP 11 (by decide) ?_
  refine us_iret hR dX3_block_8 rfl rfl ?_
  subst ho
  exact h2
def f_4015 (x0 : Int32) (s : Sx) : Int32 :=
  (xg (s.1 12) x0)
theorem sp_4015 {d : Nat} {G : ab_G} {ad : Nat → Nat} {I : Nat → Nat → Int32} {s : Sx} {P : ab_Pq} {X : ab_Xq} (hE : EV G ad) (hP : Rep I ad s) {x0 : Int32}  (h : P (gW G I) (some (.int (f_4015 x0 s)))) : ab_Gam (d + 2) 4015 [.ref (ad 0), .int x0] (gW G I) P X := by
  obtain ⟨o, ho⟩ : ∃ o, o = f_4015 x0 s := ⟨_, rfl⟩
  rw [← ho] at h
  have h2 := h
  have hF : FrE ad I I := FrE_rfl
  unfold f_4015 at ho
  refine ab_enter (I := i4015) rfl (Nat.le_of_ble_eq_true rfl) (fun R hR => ?_)
  refine us_aload_n hR dX3_entry_0 rfl ?_
  refine us_getR hR dX3_entry_1 fR_4_45 (ev_k0 hE) rfl (ev_r_0_8 hE) ?_
  refine us_iload_n hR dX3_entry_4 rfl ?_
  refine us_callV hR dX3_entry_5 (y := 6002) (by decide +kernel) (by decide) (J := i6002) rfl rfl rfl rfl (ev_rk hE (by decide)) rfl (Nat.le_of_ble_eq_true rfl) (Nat.zero_le _) (Nat.zero_le _) ?_
  refine cR_get hE hP 12 (by decide) ?_
  refine us_iret hR dX3_entry_8 rfl rfl ?_
  subst ho
  exact h2
def f_7001 (x0 : Int32) (x1 : Int32) (x2 : Int32) (s : Sx) : Sx :=
  bS (sB s 18 []) fun s1 =>
  bS (sB s1 19 (List.replicate (ev_cap 19) 0)) fun s2 =>
  bS (sB s2 20 (List.replicate (ev_cap 20) 0)) fun s3 =>
  bS (sB s3 21 []) fun s4 =>
  bS (sV s4 6 x0) fun s5 =>
  bS (sV s5 7 x1) fun s6 =>
  bS (sV s6 8 x2) fun s7 =>
  bS (sV s7 9 0) fun s8 =>
  bS (sV s8 10 (-1)) fun s9 =>
  s9
theorem sp_7001 {d : Nat} {G : ab_G} {ad : Nat → Nat} {I : Nat → Nat → Int32} {s : Sx} {P : ab_Pq} {X : ab_Xq} (hE : EV G ad) (hP : Rep I ad s) {x0 : Int32} {x1 : Int32} {x2 : Int32}  (h : ∀ I1 o, o = f_7001 x0 x1 x2 s → Rep I1 ad o → FrE ad I I1 → P (gW G I1) none) : ab_Gam (d + 2) 7001 [.ref (ad 3), .int x0, .int x1, .int x2] (gW G I) P X := by
  obtain ⟨o, ho⟩ : ∃ o, o = f_7001 x0 x1 x2 s := ⟨_, rfl⟩
  have h2 := fun I1 => h I1 o ho
  have hF : FrE ad I I := FrE_rfl
  unfold f_7001 at ho
  refine ab_enter (I := i7001) rfl (Nat.le_of_ble_eq_true rfl) (fun R hR => ?_)
  refine us_aload_n hR dX6_begin_0 rfl ?_
  refine us_getR hR dX6_begin_1 fR_7_14 (ev_k3 hE) rfl (ev_r_3_0 hE) ?_
  refine us_callV hR dX6_begin_4 (y := 6008) (by decide +kernel) (by decide) (J := i6008) rfl rfl rfl rfl (ev_rk hE (by decide)) rfl (Nat.le_of_ble_eq_true rfl) (Nat.zero_le _) (Nat.zero_le _) ?_
  refine cR_empty hE hP 18 (by decide) (fun I1 s1 hs1 hP1 hF1 => ?_)
  rw [← hs1, bS_eq] at ho
  have hF1 := hF.tr hF1
  refine us_aload_n hR dX6_begin_7 rfl ?_
  refine us_getR hR dX6_begin_8 fR_7_20 (ev_k3 hE) rfl (ev_r_3_1 hE) ?_
  refine us_callV hR dX6_begin_11 (y := 6009) (by decide +kernel) (by decide) (J := i6009) rfl rfl rfl rfl (ev_rk hE (by decide)) rfl (Nat.le_of_ble_eq_true rfl) (Nat.zero_le _) (Nat.zero_le _) ?_
  refine cR_fillWithZeros hE hP1 19 (by decide) (fun I2 s2 hs2 hP2 hF2 => ?_)
  rw [← hs2, bS_eq] at ho
  have hF2 := hF1.tr hF2
  refine us_aload_n hR dX6_begin_14 rfl ?_
  refine us_getR hR dX6_begin_15 fR_7_23 (ev_k3 hE) rfl (ev_r_3_2 hE) ?_
  refine us_callV hR dX6_begin_18 (y := 6009) (by decide +kernel) (by decide) (J := i6009) rfl rfl rfl rfl (ev_rk hE (by decide)) rfl (Nat.le_of_ble_eq_true rfl) (Nat.zero_le _) (Nat.zero_le _) ?_
  refine cR_fillWithZeros hE hP2 20 (by decide) (fun I3 s3 hs3 hP3 hF3 => ?_)
  rw [← hs3, bS_eq] at ho
  have hF3 := hF2.tr hF3
  refine us_aload_n hR dX6_begin_21 rfl ?_
  refine us_getR hR dX6_begin_22 fR_7_26 (ev_k3 hE) rfl (ev_r_3_3 hE) ?_
  refine us_callV hR dX6_begin_25 (y := 6008) (by decide +kernel) (by decide) (J := i6008) rfl rfl rfl rfl (ev_rk hE (by decide)) rfl (Nat.le_of_ble_eq_true rfl) (Nat.zero_le _) (Nat.zero_le _) ?_
  refine cR_empty hE hP3 21 (by decide) (fun I4 s4 hs4 hP4 hF4 => ?_)
  rw [← hs4, bS_eq] at ho
  have hF4 := hF3.tr hF4
  refine us_aload_n hR dX6_begin_28 rfl ?_
  refine us_iload_n hR dX6_begin_29 rfl ?_
  refine us_putIx hE hP4 6 (by decide) hR dX6_begin_30 fR_7_39 (Or.inl rfl) (ev_k3 hE) rfl rfl (fun I5 s5 hs5 hP5 hF5 => ?_)
  rw [← hs5, bS_eq] at ho
  have hF5 := hF4.tr hF5
  refine us_aload_n hR dX6_begin_33 rfl ?_
  refine us_iload_n hR dX6_begin_34 rfl ?_
  refine us_putIx hE hP5 7 (by decide) hR dX6_begin_35 fR_7_42 (Or.inl rfl) (ev_k3 hE) rfl rfl (fun I6 s6 hs6 hP6 hF6 => ?_)
  rw [← hs6, bS_eq] at ho
  have hF6 := hF5.tr hF6
  refine us_aload_n hR dX6_begin_38 rfl ?_
  refine us_iload_n hR dX6_begin_39 rfl ?_
  refine us_putIx hE hP6 8 (by decide) hR dX6_begin_40 fR_7_45 (Or.inl rfl) (ev_k3 hE) rfl rfl (fun I7 s7 hs7 hP7 hF7 => ?_)
  rw [← hs7, bS_eq] at ho
  have hF7 := hF6.tr hF7
  refine us_aload_n hR dX6_begin_43 rfl ?_
  refine us_iconstC hR dX6_begin_44 (c := 0) (by decide) ?_
  refine us_putIx hE hP7 9 (by decide) hR dX6_begin_45 fR_7_48 (Or.inl rfl) (ev_k3 hE) rfl rfl (fun I8 s8 hs8 hP8 hF8 => ?_)
  rw [← hs8, bS_eq] at ho
  have hF8 := hF7.tr hF8
  refine us_aload_n hR dX6_begin_48 rfl ?_
  refine us_iconstC hR dX6_begin_49 (c := (-1)) (by decide) ?_
  refine us_putIx hE hP8 10 (by decide) hR dX6_begin_50 fR_7_29 (Or.inl rfl) (ev_k3 hE) rfl rfl (fun I9 s9 hs9 hP9 hF9 => ?_)
  rw [← hs9, bS_eq] at ho
  have hF9 := hF8.tr hF9
  refine us_vret hR dX6_begin_53 rfl ?_
  subst ho
  exact h2 _ hP9 hF9
def f_7002  (s : Sx) : Int32 :=
  if (s.2 10) = (-1) then
    1
  else
    0
theorem sp_7002 {d : Nat} {G : ab_G} {ad : Nat → Nat} {I : Nat → Nat → Int32} {s : Sx} {P : ab_Pq} {X : ab_Xq} (hE : EV G ad) (hP : Rep I ad s)   (h : (f_7002 s = 0 ∨ f_7002 s = 1) → P (gW G I) (some (.int (f_7002 s)))) : ab_Gam (d + 1) 7002 [.ref (ad 3)] (gW G I) P X := by
  obtain ⟨o, ho⟩ : ∃ o, o = f_7002 s := ⟨_, rfl⟩
  rw [← ho] at h
  have h2 := h
  have hF : FrE ad I I := FrE_rfl
  unfold f_7002 at ho
  refine ab_enter (I := i7002) rfl (Nat.le_of_ble_eq_true rfl) (fun R hR => ?_)
  refine us_aload_n hR dX6_isGoing_0 rfl ?_
  refine us_getIx hR dX6_isGoing_1 fR_7_29 (ev_k3 hE) rfl (Rep_v hP 10 (by decide)) ?_
  refine us_iconstC hR dX6_isGoing_4 (c := (-1)) (by decide) ?_
  refine us_icmp_ne hR dX6_isGoing_5 12 (by decide) (fun c1 => ?_) (fun c1 => ?_)
  · rw [if_neg c1] at ho
    refine us_iconstC hR dX6_isGoing_12 (c := 0) (by decide) ?_
    refine us_iret hR dX6_isGoing_13 rfl (nar01 (Or.inl rfl)) ?_
    subst ho
    exact h2 (Or.inl rfl) 
  · rw [if_pos c1] at ho
    refine us_iconstC hR dX6_isGoing_8 (c := 1) (by decide) ?_
    refine us_goto hR dX6_isGoing_9 13 (by decide) ?_
    refine us_iret hR dX6_isGoing_13 rfl (nar01 (Or.inr rfl)) ?_
    subst ho
    exact h2 (Or.inr rfl) 
def f_7003  (s : Sx) : Int32 :=
  (s.2 10)
theorem sp_7003 {d : Nat} {G : ab_G} {ad : Nat → Nat} {I : Nat → Nat → Int32} {s : Sx} {P : ab_Pq} {X : ab_Xq} (hE : EV G ad) (hP : Rep I ad s)   (h : P (gW G I) (some (.int (f_7003 s)))) : ab_Gam (d + 1) 7003 [.ref (ad 3)] (gW G I) P X := by
  obtain ⟨o, ho⟩ : ∃ o, o = f_7003 s := ⟨_, rfl⟩
  rw [← ho] at h
  have h2 := h
  have hF : FrE ad I I := FrE_rfl
  unfold f_7003 at ho
  refine ab_enter (I := i7003) rfl (Nat.le_of_ble_eq_true rfl) (fun R hR => ?_)
  refine us_aload_n hR dX6_end_0 rfl ?_
  refine us_getIx hR dX6_end_1 fR_7_29 (ev_k3 hE) rfl (Rep_v hP 10 (by decide)) ?_
  refine us_iret hR dX6_end_4 rfl rfl ?_
  subst ho
  exact h2
def f_7004  (s : Sx) : Int32 :=
  (s.2 6)
theorem sp_7004 {d : Nat} {G : ab_G} {ad : Nat → Nat} {I : Nat → Nat → Int32} {s : Sx} {P : ab_Pq} {X : ab_Xq} (hE : EV G ad) (hP : Rep I ad s)   (h : P (gW G I) (some (.int (f_7004 s)))) : ab_Gam (d + 1) 7004 [.ref (ad 3)] (gW G I) P X := by
  obtain ⟨o, ho⟩ : ∃ o, o = f_7004 s := ⟨_, rfl⟩
  rw [← ho] at h
  have h2 := h
  have hF : FrE ad I I := FrE_rfl
  unfold f_7004 at ho
  refine ab_enter (I := i7004) rfl (Nat.le_of_ble_eq_true rfl) (fun R hR => ?_)
  refine us_aload_n hR dX6_fuel_0 rfl ?_
  refine us_getIx hR dX6_fuel_1 fR_7_39 (ev_k3 hE) rfl (Rep_v hP 6 (by decide)) ?_
  refine us_iret hR dX6_fuel_4 rfl rfl ?_
  subst ho
  exact h2
def f_7005  (s : Sx) : Int32 :=
  (nI (s.1 18).length)
theorem sp_7005 {d : Nat} {G : ab_G} {ad : Nat → Nat} {I : Nat → Nat → Int32} {s : Sx} {P : ab_Pq} {X : ab_Xq} (hE : EV G ad) (hP : Rep I ad s)   (h : P (gW G I) (some (.int (f_7005 s)))) : ab_Gam (d + 2) 7005 [.ref (ad 3)] (gW G I) P X := by
  obtain ⟨o, ho⟩ : ∃ o, o = f_7005 s := ⟨_, rfl⟩
  rw [← ho] at h
  have h2 := h
  have hF : FrE ad I I := FrE_rfl
  unfold f_7005 at ho
  refine ab_enter (I := i7005) rfl (Nat.le_of_ble_eq_true rfl) (fun R hR => ?_)
  refine us_aload_n hR dX6_outputCount_0 rfl ?_
  refine us_getR hR dX6_outputCount_1 fR_7_14 (ev_k3 hE) rfl (ev_r_3_0 hE) ?_
  refine us_callV hR dX6_outputCount_4 (y := 6001) (by decide +kernel) (by decide) (J := i6001) rfl rfl rfl rfl (ev_rk hE (by decide)) rfl (Nat.le_of_ble_eq_true rfl) (Nat.zero_le _) (Nat.zero_le _) ?_
  refine cR_size hE hP 18 (by decide) ?_
  refine us_iret hR dX6_outputCount_7 rfl rfl ?_
  subst ho
  exact h2
def f_7006 (x0 : Int32) (s : Sx) : Int32 :=
  (xg (s.1 18) x0)
theorem sp_7006 {d : Nat} {G : ab_G} {ad : Nat → Nat} {I : Nat → Nat → Int32} {s : Sx} {P : ab_Pq} {X : ab_Xq} (hE : EV G ad) (hP : Rep I ad s) {x0 : Int32}  (h : P (gW G I) (some (.int (f_7006 x0 s)))) : ab_Gam (d + 2) 7006 [.ref (ad 3), .int x0] (gW G I) P X := by
  obtain ⟨o, ho⟩ : ∃ o, o = f_7006 x0 s := ⟨_, rfl⟩
  rw [← ho] at h
  have h2 := h
  have hF : FrE ad I I := FrE_rfl
  unfold f_7006 at ho
  refine ab_enter (I := i7006) rfl (Nat.le_of_ble_eq_true rfl) (fun R hR => ?_)
  refine us_aload_n hR dX6_output_0 rfl ?_
  refine us_getR hR dX6_output_1 fR_7_14 (ev_k3 hE) rfl (ev_r_3_0 hE) ?_
  refine us_iload_n hR dX6_output_4 rfl ?_
  refine us_callV hR dX6_output_5 (y := 6002) (by decide +kernel) (by decide) (J := i6002) rfl rfl rfl rfl (ev_rk hE (by decide)) rfl (Nat.le_of_ble_eq_true rfl) (Nat.zero_le _) (Nat.zero_le _) ?_
  refine cR_get hE hP 18 (by decide) ?_
  refine us_iret hR dX6_output_8 rfl rfl ?_
  subst ho
  exact h2
def f_7007 (x0 : Int32) (s : Sx) : Int32 :=
  (xg (s.1 19) x0)
theorem sp_7007 {d : Nat} {G : ab_G} {ad : Nat → Nat} {I : Nat → Nat → Int32} {s : Sx} {P : ab_Pq} {X : ab_Xq} (hE : EV G ad) (hP : Rep I ad s) {x0 : Int32}  (h : P (gW G I) (some (.int (f_7007 x0 s)))) : ab_Gam (d + 2) 7007 [.ref (ad 3), .int x0] (gW G I) P X := by
  obtain ⟨o, ho⟩ : ∃ o, o = f_7007 x0 s := ⟨_, rfl⟩
  rw [← ho] at h
  have h2 := h
  have hF : FrE ad I I := FrE_rfl
  unfold f_7007 at ho
  refine ab_enter (I := i7007) rfl (Nat.le_of_ble_eq_true rfl) (fun R hR => ?_)
  refine us_aload_n hR dX6_cell_0 rfl ?_
  refine us_getR hR dX6_cell_1 fR_7_20 (ev_k3 hE) rfl (ev_r_3_1 hE) ?_
  refine us_iload_n hR dX6_cell_4 rfl ?_
  refine us_callV hR dX6_cell_5 (y := 6002) (by decide +kernel) (by decide) (J := i6002) rfl rfl rfl rfl (ev_rk hE (by decide)) rfl (Nat.le_of_ble_eq_true rfl) (Nat.zero_le _) (Nat.zero_le _) ?_
  refine cR_get hE hP 19 (by decide) ?_
  refine us_iret hR dX6_cell_8 rfl rfl ?_
  subst ho
  exact h2
def f_7008 (x0 : Int32) (s : Sx) : Sx :=
  if (s.2 10) = (-1) then
    bS (sV s 10 x0) fun s2 =>
    s2
  else
    s
theorem sp_7008 {d : Nat} {G : ab_G} {ad : Nat → Nat} {I : Nat → Nat → Int32} {s : Sx} {P : ab_Pq} {X : ab_Xq} (hE : EV G ad) (hP : Rep I ad s) {x0 : Int32}  (h : ∀ I1 o, o = f_7008 x0 s → Rep I1 ad o → FrE ad I I1 → P (gW G I1) none) : ab_Gam (d + 1) 7008 [.ref (ad 3), .int x0] (gW G I) P X := by
  obtain ⟨o, ho⟩ : ∃ o, o = f_7008 x0 s := ⟨_, rfl⟩
  have h2 := fun I1 => h I1 o ho
  have hF : FrE ad I I := FrE_rfl
  unfold f_7008 at ho
  refine ab_enter (I := i7008) rfl (Nat.le_of_ble_eq_true rfl) (fun R hR => ?_)
  refine us_aload_n hR dX6_stop_0 rfl ?_
  refine us_getIx hR dX6_stop_1 fR_7_29 (ev_k3 hE) rfl (Rep_v hP 10 (by decide)) ?_
  refine us_iconstC hR dX6_stop_4 (c := (-1)) (by decide) ?_
  refine us_icmp_ne hR dX6_stop_5 13 (by decide) (fun c1 => ?_) (fun c1 => ?_)
  · rw [if_neg c1] at ho
    refine us_vret hR dX6_stop_13 rfl ?_
    subst ho
    exact h2 _ hP hF
  · rw [if_pos c1] at ho
    refine us_aload_n hR dX6_stop_8 rfl ?_
    refine us_iload_n hR dX6_stop_9 rfl ?_
    refine us_putIx hE hP 10 (by decide) hR dX6_stop_10 fR_7_29 (Or.inl rfl) (ev_k3 hE) rfl rfl (fun I2 s2 hs2 hP2 hF2 => ?_)
    rw [← hs2, bS_eq] at ho
    have hF2 := hF.tr hF2
    refine us_vret hR dX6_stop_13 rfl ?_
    subst ho
    exact h2 _ hP2 hF2
def f_7009  (s : Sx) : Sx × Int32 :=
  if 1 ≤ (s.2 6) then
    bS (sV s 6 ((s.2 6) - 1)) fun s2 =>
    (s2, (f_7002 s2))
  else
    bS (f_7008 1 s) fun s4 =>
    (s4, (f_7002 s4))
theorem sp_7009 {d : Nat} {G : ab_G} {ad : Nat → Nat} {I : Nat → Nat → Int32} {s : Sx} {P : ab_Pq} {X : ab_Xq} (hE : EV G ad) (hP : Rep I ad s)   (h : ∀ I1 o, o = f_7009 s → (o.2 = 0 ∨ o.2 = 1) → Rep I1 ad o.1 → FrE ad I I1 → P (gW G I1) (some (.int o.2))) : ab_Gam (d + 2) 7009 [.ref (ad 3)] (gW G I) P X := by
  obtain ⟨o, ho⟩ : ∃ o, o = f_7009 s := ⟨_, rfl⟩
  have h2 := fun I1 => h I1 o ho
  have hF : FrE ad I I := FrE_rfl
  unfold f_7009 at ho
  refine ab_enter (I := i7009) rfl (Nat.le_of_ble_eq_true rfl) (fun R hR => ?_)
  refine us_aload_n hR dX6_takeFuel_0 rfl ?_
  refine us_getIx hR dX6_takeFuel_1 fR_7_39 (ev_k3 hE) rfl (Rep_v hP 6 (by decide)) ?_
  refine us_iconstC hR dX6_takeFuel_4 (c := 1) (by decide) ?_
  refine us_icmp_ge hR dX6_takeFuel_5 16 (by decide) (fun c1 => ?_) (fun c1 => ?_)
  · rw [if_pos c1] at ho
    refine us_aload_n hR dX6_takeFuel_16 rfl ?_
    refine us_dup hR dX6_takeFuel_17 rfl ?_
    refine us_getIx hR dX6_takeFuel_18 fR_7_39 (ev_k3 hE) rfl (Rep_v hP 6 (by decide)) ?_
    refine us_iconstC hR dX6_takeFuel_21 (c := 1) (by decide) ?_
    refine us_isub hR dX6_takeFuel_22 ?_
    refine us_putIx hE hP 6 (by decide) hR dX6_takeFuel_23 fR_7_39 (Or.inl rfl) (ev_k3 hE) rfl rfl (fun I2 s2 hs2 hP2 hF2 => ?_)
    rw [← hs2, bS_eq] at ho
    have hF2 := hF.tr hF2
    refine us_aload_n hR dX6_takeFuel_26 rfl ?_
    refine us_callV hR dX6_takeFuel_27 (y := 7002) (by decide +kernel) (by decide) (J := i7002) rfl rfl rfl rfl (ev_k3 hE) rfl (Nat.le_of_ble_eq_true rfl) (Nat.zero_le _) (Nat.zero_le _) ?_
    refine sp_7002 hE hP2  (fun hb3 => ?_)
    refine us_iret hR dX6_takeFuel_30 rfl (nar01 hb3) ?_
    subst ho
    exact h2 _ hb3 hP2 hF2
  · rw [if_neg c1] at ho
    refine us_aload_n hR dX6_takeFuel_8 rfl ?_
    refine us_iconstC hR dX6_takeFuel_9 (c := 1) (by decide) ?_
    refine us_callV hR dX6_takeFuel_10 (y := 7008) (by decide +kernel) (by decide) (J := i7008) rfl rfl rfl rfl (ev_k3 hE) rfl (Nat.le_of_ble_eq_true rfl) (Nat.zero_le _) (Nat.zero_le _) ?_
    refine sp_7008 hE hP  (fun I4 s4 hs4 hP4 hF4 => ?_)
    rw [← hs4, bS_eq] at ho
    have hF4 := hF.tr hF4
    refine us_goto hR dX6_takeFuel_13 26 (by decide) ?_
    refine us_aload_n hR dX6_takeFuel_26 rfl ?_
    refine us_callV hR dX6_takeFuel_27 (y := 7002) (by decide +kernel) (by decide) (J := i7002) rfl rfl rfl rfl (ev_k3 hE) rfl (Nat.le_of_ble_eq_true rfl) (Nat.zero_le _) (Nat.zero_le _) ?_
    refine sp_7002 hE hP4  (fun hb5 => ?_)
    refine us_iret hR dX6_takeFuel_30 rfl (nar01 hb5) ?_
    subst ho
    exact h2 _ hb5 hP4 hF4
def f_7010  (s : Sx) : Sx × Int32 :=
  bT (f_7009 s) fun s1 r1 =>
  if r1 = 0 then
    (s1, 0)
  else
    bS (sV s1 9 ((s1.2 9) + 1)) fun s3 =>
    if (s3.2 9) ≤ 2 then
      if (s3.2 9) = 1 then
        (s3, (s3.2 7))
      else
        (s3, (s3.2 8))
    else
      bS (f_7008 5 s3) fun s6 =>
      (s6, 0)
theorem sp_7010 {d : Nat} {G : ab_G} {ad : Nat → Nat} {I : Nat → Nat → Int32} {s : Sx} {P : ab_Pq} {X : ab_Xq} (hE : EV G ad) (hP : Rep I ad s)   (h : ∀ I1 o, o = f_7010 s → Rep I1 ad o.1 → FrE ad I I1 → P (gW G I1) (some (.int o.2))) : ab_Gam (d + 3) 7010 [.ref (ad 3)] (gW G I) P X := by
  obtain ⟨o, ho⟩ : ∃ o, o = f_7010 s := ⟨_, rfl⟩
  have h2 := fun I1 => h I1 o ho
  have hF : FrE ad I I := FrE_rfl
  unfold f_7010 at ho
  refine ab_enter (I := i7010) rfl (Nat.le_of_ble_eq_true rfl) (fun R hR => ?_)
  refine us_aload_n hR dX6_input_0 rfl ?_
  refine us_callV hR dX6_input_1 (y := 7009) (by decide +kernel) (by decide) (J := i7009) rfl rfl rfl rfl (ev_k3 hE) rfl (Nat.le_of_ble_eq_true rfl) (Nat.zero_le _) (Nat.zero_le _) ?_
  refine sp_7009 hE hP  (fun I1 q1 hs1 hb1 hP1 hF1 => ?_)
  rw [← hs1] at ho
  obtain ⟨s1, r1⟩ := q1
  rw [bT_eq] at ho
  have hF1 := hF.tr hF1
  refine us_if_ne hR dX6_input_4 9 (by decide) (fun c2 => ?_) (fun c2 => ?_)
  · rw [if_neg c2] at ho
    refine us_aload_n hR dX6_input_9 rfl ?_
    refine us_dup hR dX6_input_10 rfl ?_
    refine us_getIx hR dX6_input_11 fR_7_48 (ev_k3 hE) rfl (Rep_v hP1 9 (by decide)) ?_
    refine us_iconstC hR dX6_input_14 (c := 1) (by decide) ?_
    refine us_iadd hR dX6_input_15 ?_
    refine us_putIx hE hP1 9 (by decide) hR dX6_input_16 fR_7_48 (Or.inl rfl) (ev_k3 hE) rfl rfl (fun I3 s3 hs3 hP3 hF3 => ?_)
    rw [← hs3, bS_eq] at ho
    have hF3 := hF1.tr hF3
    refine us_aload_n hR dX6_input_19 rfl ?_
    refine us_getIx hR dX6_input_20 fR_7_48 (ev_k3 hE) rfl (Rep_v hP3 9 (by decide)) ?_
    refine us_iconstC hR dX6_input_23 (c := 2) (by decide) ?_
    refine us_icmp_le hR dX6_input_24 34 (by decide) (fun c4 => ?_) (fun c4 => ?_)
    · rw [if_pos c4] at ho
      refine us_aload_n hR dX6_input_34 rfl ?_
      refine us_getIx hR dX6_input_35 fR_7_48 (ev_k3 hE) rfl (Rep_v hP3 9 (by decide)) ?_
      refine us_iconstC hR dX6_input_38 (c := 1) (by decide) ?_
      refine us_icmp_ne hR dX6_input_39 49 (by decide) (fun c5 => ?_) (fun c5 => ?_)
      · rw [if_neg c5] at ho
        refine us_aload_n hR dX6_input_49 rfl ?_
        refine us_getIx hR dX6_input_50 fR_7_45 (ev_k3 hE) rfl (Rep_v hP3 8 (by decide)) ?_
        refine us_iret hR dX6_input_53 rfl rfl ?_
        subst ho
        exact h2 _ hP3 hF3
      · rw [if_pos c5] at ho
        refine us_aload_n hR dX6_input_42 rfl ?_
        refine us_getIx hR dX6_input_43 fR_7_42 (ev_k3 hE) rfl (Rep_v hP3 7 (by decide)) ?_
        refine us_goto hR dX6_input_46 53 (by decide) ?_
        refine us_iret hR dX6_input_53 rfl rfl ?_
        subst ho
        exact h2 _ hP3 hF3
    · rw [if_neg c4] at ho
      refine us_aload_n hR dX6_input_27 rfl ?_
      refine us_iconstC hR dX6_input_28 (c := 5) (by decide) ?_
      refine us_callV hR dX6_input_29 (y := 7008) (by decide +kernel) (by decide) (J := i7008) rfl rfl rfl rfl (ev_k3 hE) rfl (Nat.le_of_ble_eq_true rfl) (Nat.zero_le _) (Nat.zero_le _) ?_
      refine sp_7008 hE hP3  (fun I6 s6 hs6 hP6 hF6 => ?_)
      rw [← hs6, bS_eq] at ho
      have hF6 := hF3.tr hF6
      refine us_iconstC hR dX6_input_32 (c := 0) (by decide) ?_
      refine us_iret hR dX6_input_33 rfl rfl ?_
      subst ho
      exact h2 _ hP6 hF6
  · rw [if_pos c2] at ho
    refine us_iconstC hR dX6_input_7 (c := 0) (by decide) ?_
    refine us_iret hR dX6_input_8 rfl rfl ?_
    subst ho
    exact h2 _ hP1 hF1
def f_7011 (x0 : Int32) (s : Sx) : Sx :=
  if (nI (s.1 18).length) < 8 then
    bS (sB s 18 (xadd (ev_cap 18) (s.1 18) x0)) fun s3 =>
    s3
  else
    bS (f_7008 6 s) fun s4 =>
    s4
theorem sp_7011 {d : Nat} {G : ab_G} {ad : Nat → Nat} {I : Nat → Nat → Int32} {s : Sx} {P : ab_Pq} {X : ab_Xq} (hE : EV G ad) (hP : Rep I ad s) {x0 : Int32}  (h : ∀ I1 o, o = f_7011 x0 s → Rep I1 ad o → FrE ad I I1 → P (gW G I1) none) : ab_Gam (d + 2) 7011 [.ref (ad 3), .int x0] (gW G I) P X := by
  obtain ⟨o, ho⟩ : ∃ o, o = f_7011 x0 s := ⟨_, rfl⟩
  have h2 := fun I1 => h I1 o ho
  have hF : FrE ad I I := FrE_rfl
  unfold f_7011 at ho
  refine ab_enter (I := i7011) rfl (Nat.le_of_ble_eq_true rfl) (fun R hR => ?_)
  refine us_aload_n hR dX6_put_0 rfl ?_
  refine us_getR hR dX6_put_1 fR_7_14 (ev_k3 hE) rfl (ev_r_3_0 hE) ?_
  refine us_callV hR dX6_put_4 (y := 6001) (by decide +kernel) (by decide) (J := i6001) rfl rfl rfl rfl (ev_rk hE (by decide)) rfl (Nat.le_of_ble_eq_true rfl) (Nat.zero_le _) (Nat.zero_le _) ?_
  refine cR_size hE hP 18 (by decide) ?_
  refine us_bipushC hR dX6_put_7 (c := 8) (by decide) ?_
  refine us_icmp_lt hR dX6_put_9 21 (by decide) (fun c2 => ?_) (fun c2 => ?_)
  · rw [if_pos c2] at ho
    refine us_aload_n hR dX6_put_21 rfl ?_
    refine us_getR hR dX6_put_22 fR_7_14 (ev_k3 hE) rfl (ev_r_3_0 hE) ?_
    refine us_iload_n hR dX6_put_25 rfl ?_
    refine us_callV hR dX6_put_26 (y := 6004) (by decide +kernel) (by decide) (J := i6004) rfl rfl rfl rfl (ev_rk hE (by decide)) rfl (Nat.le_of_ble_eq_true rfl) (Nat.zero_le _) (Nat.zero_le _) ?_
    refine cR_add hE hP 18 (by decide) (fun I3 s3 hs3 hP3 hF3 => ?_)
    rw [← hs3, bS_eq] at ho
    have hF3 := hF.tr hF3
    refine us_vret hR dX6_put_29 rfl ?_
    subst ho
    exact h2 _ hP3 hF3
  · rw [if_neg c2] at ho
    refine us_aload_n hR dX6_put_12 rfl ?_
    refine us_bipushC hR dX6_put_13 (c := 6) (by decide) ?_
    refine us_callV hR dX6_put_15 (y := 7008) (by decide +kernel) (by decide) (J := i7008) rfl rfl rfl rfl (ev_k3 hE) rfl (Nat.le_of_ble_eq_true rfl) (Nat.zero_le _) (Nat.zero_le _) ?_
    refine sp_7008 hE hP  (fun I4 s4 hs4 hP4 hF4 => ?_)
    rw [← hs4, bS_eq] at ho
    have hF4 := hF.tr hF4
    refine us_goto hR dX6_put_18 29 (by decide) ?_
    refine us_vret hR dX6_put_29 rfl ?_
    subst ho
    exact h2 _ hP4 hF4
def f_7012_J10  (l1 : Int32) (l2 : Int32) (s : Sx) : Sx :=
  bS (f_7008 4 s) fun s1 =>
  s1
def f_7012 (x0 : Int32) (x1 : Int32) (s : Sx) : Sx :=
  if x0 < 0 then
    f_7012_J10 x0 x1 s
  else
    if x0 < 32 then
      bS (sB s 19 (xset (s.1 19) x0 x1)) fun s4 =>
      s4
    else
      f_7012_J10 x0 x1 s
theorem sp_7012 {d : Nat} {G : ab_G} {ad : Nat → Nat} {I : Nat → Nat → Int32} {s : Sx} {P : ab_Pq} {X : ab_Xq} (hE : EV G ad) (hP : Rep I ad s) {x0 : Int32} {x1 : Int32}  (h : ∀ I1 o, o = f_7012 x0 x1 s → Rep I1 ad o → FrE ad I I1 → P (gW G I1) none) : ab_Gam (d + 2) 7012 [.ref (ad 3), .int x0, .int x1] (gW G I) P X := by
  obtain ⟨o, ho⟩ : ∃ o, o = f_7012 x0 x1 s := ⟨_, rfl⟩
  have h2 := fun I1 => h I1 o ho
  have hF : FrE ad I I := FrE_rfl
  unfold f_7012 at ho
  refine ab_enter (I := i7012) rfl (Nat.le_of_ble_eq_true rfl) (fun R hR => ?_)
  have h7012_J10 : ∀ (l1 : Int32) (l2 : Int32)  (s : Sx) (Ia : Nat → Nat → Int32) (bc bs : Nat) (hPa : Rep Ia ad s) (hFa : FrE ad I Ia) (ho : o = f_7012_J10 l1 l2 s), R 10 [some (.ref (ad 3)), some (.int l1), some (.int l2)] [] (gW G Ia) bc bs := by
    intro l1 l2  s Ia bc bs  hPa hFa ho
    unfold f_7012_J10 at ho
    refine us_aload_n hR dX6_setCell_10 rfl ?_
    refine us_iconstC hR dX6_setCell_11 (c := 4) (by decide) ?_
    refine us_callV hR dX6_setCell_12 (y := 7008) (by decide +kernel) (by decide) (J := i7008) rfl rfl rfl rfl (ev_k3 hE) rfl (Nat.le_of_ble_eq_true rfl) (Nat.zero_le _) (Nat.zero_le _) ?_
    refine sp_7008 hE hPa  (fun I1 s1 hs1 hP1 hF1 => ?_)
    rw [← hs1, bS_eq] at ho
    have hF1 := hFa.tr hF1
    refine us_goto hR dX6_setCell_15 27 (by decide) ?_
    refine us_vret hR dX6_setCell_27 rfl ?_
    subst ho
    exact h2 _ hP1 hF1
  refine us_iload_n hR dX6_setCell_0 rfl ?_
  refine us_if_lt hR dX6_setCell_1 10 (by decide) (fun c2 => ?_) (fun c2 => ?_)
  · rw [if_pos c2] at ho
    exact h7012_J10 x0 x1  s I _ _ hP hF ho
  · rw [if_neg c2] at ho
    refine us_iload_n hR dX6_setCell_4 rfl ?_
    refine us_bipushC hR dX6_setCell_5 (c := 32) (by decide) ?_
    refine us_icmp_lt hR dX6_setCell_7 18 (by decide) (fun c3 => ?_) (fun c3 => ?_)
    · rw [if_pos c3] at ho
      refine us_aload_n hR dX6_setCell_18 rfl ?_
      refine us_getR hR dX6_setCell_19 fR_7_20 (ev_k3 hE) rfl (ev_r_3_1 hE) ?_
      refine us_iload_n hR dX6_setCell_22 rfl ?_
      refine us_iload_n hR dX6_setCell_23 rfl ?_
      refine us_callV hR dX6_setCell_24 (y := 6003) (by decide +kernel) (by decide) (J := i6003) rfl rfl rfl rfl (ev_rk hE (by decide)) rfl (Nat.le_of_ble_eq_true rfl) (Nat.zero_le _) (Nat.zero_le _) ?_
      refine cR_set hE hP 19 (by decide) (fun I4 s4 hs4 hP4 hF4 => ?_)
      rw [← hs4, bS_eq] at ho
      have hF4 := hF.tr hF4
      refine us_vret hR dX6_setCell_27 rfl ?_
      subst ho
      exact h2 _ hP4 hF4
    · rw [if_neg c3] at ho
      exact h7012_J10 x0 x1  s I _ _ hP hF ho
def f_7013 (x0 : Int32) (s : Sx) : Int32 :=
  (xg (s.1 20) (((nI (s.1 21).length) * 8) + x0))
theorem sp_7013 {d : Nat} {G : ab_G} {ad : Nat → Nat} {I : Nat → Nat → Int32} {s : Sx} {P : ab_Pq} {X : ab_Xq} (hE : EV G ad) (hP : Rep I ad s) {x0 : Int32}  (h : P (gW G I) (some (.int (f_7013 x0 s)))) : ab_Gam (d + 2) 7013 [.ref (ad 3), .int x0] (gW G I) P X := by
  obtain ⟨o, ho⟩ : ∃ o, o = f_7013 x0 s := ⟨_, rfl⟩
  rw [← ho] at h
  have h2 := h
  have hF : FrE ad I I := FrE_rfl
  unfold f_7013 at ho
  refine ab_enter (I := i7013) rfl (Nat.le_of_ble_eq_true rfl) (fun R hR => ?_)
  refine us_aload_n hR dX6_variable_0 rfl ?_
  refine us_getR hR dX6_variable_1 fR_7_23 (ev_k3 hE) rfl (ev_r_3_2 hE) ?_
  refine us_aload_n hR dX6_variable_4 rfl ?_
  refine us_getR hR dX6_variable_5 fR_7_26 (ev_k3 hE) rfl (ev_r_3_3 hE) ?_
  refine us_callV hR dX6_variable_8 (y := 6001) (by decide +kernel) (by decide) (J := i6001) rfl rfl rfl rfl (ev_rk hE (by decide)) rfl (Nat.le_of_ble_eq_true rfl) (Nat.zero_le _) (Nat.zero_le _) ?_
  refine cR_size hE hP 21 (by decide) ?_
  refine us_bipushC hR dX6_variable_11 (c := 8) (by decide) ?_
  refine us_imul hR dX6_variable_13 ?_
  refine us_iload_n hR dX6_variable_14 rfl ?_
  refine us_iadd hR dX6_variable_15 ?_
  refine us_callV hR dX6_variable_16 (y := 6002) (by decide +kernel) (by decide) (J := i6002) rfl rfl rfl rfl (ev_rk hE (by decide)) rfl (Nat.le_of_ble_eq_true rfl) (Nat.zero_le _) (Nat.zero_le _) ?_
  refine cR_get hE hP 20 (by decide) ?_
  refine us_iret hR dX6_variable_19 rfl rfl ?_
  subst ho
  exact h2
def f_7014 (x0 : Int32) (x1 : Int32) (s : Sx) : Sx :=
  bS (sB s 20 (xset (s.1 20) (((nI (s.1 21).length) * 8) + x0) x1)) fun s2 =>
  s2
theorem sp_7014 {d : Nat} {G : ab_G} {ad : Nat → Nat} {I : Nat → Nat → Int32} {s : Sx} {P : ab_Pq} {X : ab_Xq} (hE : EV G ad) (hP : Rep I ad s) {x0 : Int32} {x1 : Int32}  (h : ∀ I1 o, o = f_7014 x0 x1 s → Rep I1 ad o → FrE ad I I1 → P (gW G I1) none) : ab_Gam (d + 2) 7014 [.ref (ad 3), .int x0, .int x1] (gW G I) P X := by
  obtain ⟨o, ho⟩ : ∃ o, o = f_7014 x0 x1 s := ⟨_, rfl⟩
  have h2 := fun I1 => h I1 o ho
  have hF : FrE ad I I := FrE_rfl
  unfold f_7014 at ho
  refine ab_enter (I := i7014) rfl (Nat.le_of_ble_eq_true rfl) (fun R hR => ?_)
  refine us_aload_n hR dX6_setVariable_0 rfl ?_
  refine us_getR hR dX6_setVariable_1 fR_7_23 (ev_k3 hE) rfl (ev_r_3_2 hE) ?_
  refine us_aload_n hR dX6_setVariable_4 rfl ?_
  refine us_getR hR dX6_setVariable_5 fR_7_26 (ev_k3 hE) rfl (ev_r_3_3 hE) ?_
  refine us_callV hR dX6_setVariable_8 (y := 6001) (by decide +kernel) (by decide) (J := i6001) rfl rfl rfl rfl (ev_rk hE (by decide)) rfl (Nat.le_of_ble_eq_true rfl) (Nat.zero_le _) (Nat.zero_le _) ?_
  refine cR_size hE hP 21 (by decide) ?_
  refine us_bipushC hR dX6_setVariable_11 (c := 8) (by decide) ?_
  refine us_imul hR dX6_setVariable_13 ?_
  refine us_iload_n hR dX6_setVariable_14 rfl ?_
  refine us_iadd hR dX6_setVariable_15 ?_
  refine us_iload_n hR dX6_setVariable_16 rfl ?_
  refine us_callV hR dX6_setVariable_17 (y := 6003) (by decide +kernel) (by decide) (J := i6003) rfl rfl rfl rfl (ev_rk hE (by decide)) rfl (Nat.le_of_ble_eq_true rfl) (Nat.zero_le _) (Nat.zero_le _) ?_
  refine cR_set hE hP 20 (by decide) (fun I2 s2 hs2 hP2 hF2 => ?_)
  rw [← hs2, bS_eq] at ho
  have hF2 := hF.tr hF2
  refine us_vret hR dX6_setVariable_20 rfl ?_
  subst ho
  exact h2 _ hP2 hF2
def f_7015_L39  : Nat → Int32 → Int32 → Sx → Option (Sx × Int32)
  | 0, _, _, _ => none
  | n + 1, l1, l2, s =>
    if 8 ≤ l2 then
      some (s, 1)
    else
      bS (f_7014 l2 0 s) fun s2 =>
      f_7015_L39 n l1 (l2 + 1) s2
def f_7015 (x0 : Int32) (s : Sx) : Option (Sx × Int32) :=
  bT (f_7009 s) fun s3 r3 =>
  if r3 = 0 then
    some (s3, 0)
  else
    if (nI (s3.1 21).length) < 10 then
      bS (sB s3 21 (xadd (ev_cap 21) (s3.1 21) x0)) fun s7 =>
      f_7015_L39 20 x0 0 s7
    else
      bS (f_7008 7 s3) fun s8 =>
      some (s8, 0)
theorem sp_7015 {d : Nat} {G : ab_G} {ad : Nat → Nat} {I : Nat → Nat → Int32} {s : Sx} {P : ab_Pq} {X : ab_Xq} (hE : EV G ad) (hP : Rep I ad s) {x0 : Int32}  {o : Sx × Int32} (ho : f_7015 x0 s = some o) (h : ∀ I1, (o.2 = 0 ∨ o.2 = 1) → Rep I1 ad o.1 → FrE ad I I1 → P (gW G I1) (some (.int o.2))) : ab_Gam (d + 3) 7015 [.ref (ad 3), .int x0] (gW G I) P X := by
  have h2 := h
  have hF : FrE ad I I := FrE_rfl
  unfold f_7015 at ho
  refine ab_enter (I := i7015) rfl (Nat.le_of_ble_eq_true rfl) (fun R hR => ?_)
  have h7015_L39 : ∀ (n : Nat) (l1 : Int32) (l2 : Int32)  (s : Sx) (Ia : Nat → Nat → Int32) (bc bs : Nat) (hPa : Rep Ia ad s) (hFa : FrE ad I Ia) (ho : f_7015_L39 n l1 l2 s = some o), R 39 [some (.ref (ad 3)), some (.int l1), some (.int l2)] [] (gW G Ia) bc bs := by
    intro n
    induction n with
    | zero => intro l1 l2  s Ia bc bs  hPa hFa ho; exact absurd ho (by intro hc; cases hc)
    | succ n39 ih39 =>
      intro l1 l2  s Ia bc bs  hPa hFa ho
      rw [f_7015_L39] at ho
      refine us_iload_n hR dX6_enter_39 rfl ?_
      refine us_bipushC hR dX6_enter_40 (c := 8) (by decide) ?_
      refine us_icmp_ge hR dX6_enter_42 57 (by decide) (fun c1 => ?_) (fun c1 => ?_)
      · rw [if_pos c1] at ho
        refine us_iconstC hR dX6_enter_57 (c := 1) (by decide) ?_
        refine us_iret hR dX6_enter_58 rfl (nar01 (Or.inr rfl)) ?_
        cases ho
        exact h2 _ (Or.inr rfl) hPa hFa
      · rw [if_neg c1] at ho
        refine us_aload_n hR dX6_enter_45 rfl ?_
        refine us_iload_n hR dX6_enter_46 rfl ?_
        refine us_iconstC hR dX6_enter_47 (c := 0) (by decide) ?_
        refine us_callV hR dX6_enter_48 (y := 7014) (by decide +kernel) (by decide) (J := i7014) rfl rfl rfl rfl (ev_k3 hE) rfl (Nat.le_of_ble_eq_true rfl) (Nat.zero_le _) (Nat.zero_le _) ?_
        refine sp_7014 hE hPa  (fun I2 s2 hs2 hP2 hF2 => ?_)
        rw [← hs2, bS_eq] at ho
        have hF2 := hFa.tr hF2
        refine us_iincC hR dX6_enter_51 rfl (Nat.le_of_ble_eq_true rfl) (c := 1) (by decide) ?_
        refine us_goto hR dX6_enter_54 39 (by decide) ?_
        exact ih39 l1 (l2 + 1)  s2 I2 _ _ hP2 hF2 ho
  refine us_aload_n hR dX6_enter_0 rfl ?_
  refine us_callV hR dX6_enter_1 (y := 7009) (by decide +kernel) (by decide) (J := i7009) rfl rfl rfl rfl (ev_k3 hE) rfl (Nat.le_of_ble_eq_true rfl) (Nat.zero_le _) (Nat.zero_le _) ?_
  refine sp_7009 hE hP  (fun I3 q3 hs3 hb3 hP3 hF3 => ?_)
  rw [← hs3] at ho
  obtain ⟨s3, r3⟩ := q3
  rw [bT_eq] at ho
  have hF3 := hF.tr hF3
  refine us_if_ne hR dX6_enter_4 9 (by decide) (fun c4 => ?_) (fun c4 => ?_)
  · rw [if_neg c4] at ho
    refine us_aload_n hR dX6_enter_9 rfl ?_
    refine us_getR hR dX6_enter_10 fR_7_26 (ev_k3 hE) rfl (ev_r_3_3 hE) ?_
    refine us_callV hR dX6_enter_13 (y := 6001) (by decide +kernel) (by decide) (J := i6001) rfl rfl rfl rfl (ev_rk hE (by decide)) rfl (Nat.le_of_ble_eq_true rfl) (Nat.zero_le _) (Nat.zero_le _) ?_
    refine cR_size hE hP3 21 (by decide) ?_
    refine us_bipushC hR dX6_enter_16 (c := 10) (by decide) ?_
    refine us_icmp_lt hR dX6_enter_18 29 (by decide) (fun c6 => ?_) (fun c6 => ?_)
    · rw [if_pos c6] at ho
      refine us_aload_n hR dX6_enter_29 rfl ?_
      refine us_getR hR dX6_enter_30 fR_7_26 (ev_k3 hE) rfl (ev_r_3_3 hE) ?_
      refine us_iload_n hR dX6_enter_33 rfl ?_
      refine us_callV hR dX6_enter_34 (y := 6004) (by decide +kernel) (by decide) (J := i6004) rfl rfl rfl rfl (ev_rk hE (by decide)) rfl (Nat.le_of_ble_eq_true rfl) (Nat.zero_le _) (Nat.zero_le _) ?_
      refine cR_add hE hP3 21 (by decide) (fun I7 s7 hs7 hP7 hF7 => ?_)
      rw [← hs7, bS_eq] at ho
      have hF7 := hF3.tr hF7
      refine us_iconstC hR dX6_enter_37 (c := 0) (by decide) ?_
      refine us_istore_n hR dX6_enter_38 (Nat.le_of_ble_eq_true rfl) ?_
      exact h7015_L39 _ x0 0  s7 I7 _ _ hP7 hF7 ho
    · rw [if_neg c6] at ho
      refine us_aload_n hR dX6_enter_21 rfl ?_
      refine us_bipushC hR dX6_enter_22 (c := 7) (by decide) ?_
      refine us_callV hR dX6_enter_24 (y := 7008) (by decide +kernel) (by decide) (J := i7008) rfl rfl rfl rfl (ev_k3 hE) rfl (Nat.le_of_ble_eq_true rfl) (Nat.zero_le _) (Nat.zero_le _) ?_
      refine sp_7008 hE hP3  (fun I8 s8 hs8 hP8 hF8 => ?_)
      rw [← hs8, bS_eq] at ho
      have hF8 := hF3.tr hF8
      refine us_iconstC hR dX6_enter_27 (c := 0) (by decide) ?_
      refine us_iret hR dX6_enter_28 rfl (nar01 (Or.inl rfl)) ?_
      cases ho
      exact h2 _ (Or.inl rfl) hP8 hF8
  · rw [if_pos c4] at ho
    refine us_iconstC hR dX6_enter_7 (c := 0) (by decide) ?_
    refine us_iret hR dX6_enter_8 rfl (nar01 (Or.inl rfl)) ?_
    cases ho
    exact h2 _ (Or.inl rfl) hP3 hF3
def f_7016  (s : Sx) : Sx × Int32 :=
  bT (sB s 21 (s.1 21).dropLast, xlast (s.1 21)) fun s1 r1 =>
  (s1, r1)
theorem sp_7016 {d : Nat} {G : ab_G} {ad : Nat → Nat} {I : Nat → Nat → Int32} {s : Sx} {P : ab_Pq} {X : ab_Xq} (hE : EV G ad) (hP : Rep I ad s)   (h : ∀ I1 o, o = f_7016 s → Rep I1 ad o.1 → FrE ad I I1 → P (gW G I1) (some (.int o.2))) : ab_Gam (d + 2) 7016 [.ref (ad 3)] (gW G I) P X := by
  obtain ⟨o, ho⟩ : ∃ o, o = f_7016 s := ⟨_, rfl⟩
  have h2 := fun I1 => h I1 o ho
  have hF : FrE ad I I := FrE_rfl
  unfold f_7016 at ho
  refine ab_enter (I := i7016) rfl (Nat.le_of_ble_eq_true rfl) (fun R hR => ?_)
  refine us_aload_n hR dX6_leave_0 rfl ?_
  refine us_getR hR dX6_leave_1 fR_7_26 (ev_k3 hE) rfl (ev_r_3_3 hE) ?_
  refine us_callV hR dX6_leave_4 (y := 6006) (by decide +kernel) (by decide) (J := i6006) rfl rfl rfl rfl (ev_rk hE (by decide)) rfl (Nat.le_of_ble_eq_true rfl) (Nat.zero_le _) (Nat.zero_le _) ?_
  refine cR_takeLast hE hP 21 (by decide) (fun I1 q1 hs1 hP1 hF1 => ?_)
  rw [← hs1] at ho
  obtain ⟨s1, r1⟩ := q1
  rw [bT_eq] at ho
  have hF1 := hF.tr hF1
  refine us_iret hR dX6_leave_7 rfl rfl ?_
  subst ho
  exact h2 _ hP1 hF1
def f_7019_J16  (l1 : Int64) (s : Sx) : Sx × Int32 :=
  bS (f_7008 2 s) fun s1 =>
  (s1, 0)
def f_7019 (x0 : Int64) (s : Sx) : Sx × Int32 :=
  if (lg_cmp x0 (-2147483648)) < 0 then
    f_7019_J16 x0 s
  else
    if (lg_cmp x0 2147483647) ≤ 0 then
      (s, x0.toInt32)
    else
      f_7019_J16 x0 s
theorem sp_7019 {d : Nat} {G : ab_G} {ad : Nat → Nat} {I : Nat → Nat → Int32} {s : Sx} {P : ab_Pq} {X : ab_Xq} (hE : EV G ad) (hP : Rep I ad s) {x0 : Int64}  (h : ∀ I1 o, o = f_7019 x0 s → Rep I1 ad o.1 → FrE ad I I1 → P (gW G I1) (some (.int o.2))) : ab_Gam (d + 2) 7019 [.ref (ad 3), .long x0] (gW G I) P X := by
  obtain ⟨o, ho⟩ : ∃ o, o = f_7019 x0 s := ⟨_, rfl⟩
  have h2 := fun I1 => h I1 o ho
  have hF : FrE ad I I := FrE_rfl
  unfold f_7019 at ho
  refine ab_enter (I := i7019) rfl (Nat.le_of_ble_eq_true rfl) (fun R hR => ?_)
  have h7019_J16 : ∀ (l1 : Int64)  (s : Sx) (Ia : Nat → Nat → Int32) (bc bs : Nat) (hPa : Rep Ia ad s) (hFa : FrE ad I Ia) (ho : o = f_7019_J16 l1 s), R 16 [some (.ref (ad 3)), some (.long l1), none] [] (gW G Ia) bc bs := by
    intro l1  s Ia bc bs  hPa hFa ho
    unfold f_7019_J16 at ho
    refine us_aload_n hR dX6_intOf_16 rfl ?_
    refine us_iconstC hR dX6_intOf_17 (c := 2) (by decide) ?_
    refine us_callV hR dX6_intOf_18 (y := 7008) (by decide +kernel) (by decide) (J := i7008) rfl rfl rfl rfl (ev_k3 hE) rfl (Nat.le_of_ble_eq_true rfl) (Nat.zero_le _) (Nat.zero_le _) ?_
    refine sp_7008 hE hPa  (fun I1 s1 hs1 hP1 hF1 => ?_)
    rw [← hs1, bS_eq] at ho
    have hF1 := hFa.tr hF1
    refine us_iconstC hR dX6_intOf_21 (c := 0) (by decide) ?_
    refine us_iret hR dX6_intOf_22 rfl rfl ?_
    subst ho
    exact h2 _ hP1 hF1
  refine us_lload_n hR dX6_intOf_0 rfl ?_
  refine us_ldc2_w hR dX6_intOf_1 (v := (-2147483648)) (by decide +kernel) ?_
  refine us_lcmp hR dX6_intOf_4 ?_
  refine us_if_lt hR dX6_intOf_5 16 (by decide) (fun c2 => ?_) (fun c2 => ?_)
  · rw [if_pos c2] at ho
    exact h7019_J16 x0  s I _ _ hP hF ho
  · rw [if_neg c2] at ho
    refine us_lload_n hR dX6_intOf_8 rfl ?_
    refine us_ldc2_w hR dX6_intOf_9 (v := 2147483647) (by decide +kernel) ?_
    refine us_lcmp hR dX6_intOf_12 ?_
    refine us_if_le hR dX6_intOf_13 23 (by decide) (fun c3 => ?_) (fun c3 => ?_)
    · rw [if_pos c3] at ho
      refine us_lload_n hR dX6_intOf_23 rfl ?_
      refine us_l2i hR dX6_intOf_24 ?_
      refine us_iret hR dX6_intOf_25 rfl rfl ?_
      subst ho
      exact h2 _ hP hF
    · rw [if_neg c3] at ho
      exact h7019_J16 x0  s I _ _ hP hF ho
def f_7017_J69  (l1 : Int32) (l2 : Int32) (s : Sx) : Sx × Int32 :=
  (s, (xg (s.1 19) l2))
def f_7017_J64  (l1 : Int32) (l2 : Int32) (s : Sx) : Sx × Int32 :=
  bS (f_7008 4 s) fun s2 =>
  f_7017_J69 l1 l2 s2
def f_7017 (x0 : Int32) (x1 : Int32) (s : Sx) : Sx × Int32 :=
  bT (f_7009 s) fun s3 r3 =>
  if r3 = 0 then
    (s3, 0)
  else
    if x0 = 25 then
      if x1 = 0 then
        (s3, 1)
      else
        (s3, 0)
    else if x0 = 36 then
      bT (f_7019 (-x1.toInt64) s3) fun s7 r7 =>
      (s7, r7)
    else
      if x1 < 0 then
        f_7017_J64 x0 x1 s3
      else
        if x1 < 32 then
          f_7017_J69 x0 x1 s3
        else
          f_7017_J64 x0 x1 s3
theorem sp_7017 {d : Nat} {G : ab_G} {ad : Nat → Nat} {I : Nat → Nat → Int32} {s : Sx} {P : ab_Pq} {X : ab_Xq} (hE : EV G ad) (hP : Rep I ad s) {x0 : Int32} {x1 : Int32}  (h : ∀ I1 o, o = f_7017 x0 x1 s → Rep I1 ad o.1 → FrE ad I I1 → P (gW G I1) (some (.int o.2))) : ab_Gam (d + 3) 7017 [.ref (ad 3), .int x0, .int x1] (gW G I) P X := by
  obtain ⟨o, ho⟩ : ∃ o, o = f_7017 x0 x1 s := ⟨_, rfl⟩
  have h2 := fun I1 => h I1 o ho
  have hF : FrE ad I I := FrE_rfl
  unfold f_7017 at ho
  refine ab_enter (I := i7017) rfl (Nat.le_of_ble_eq_true rfl) (fun R hR => ?_)
  have h7017_J69 : ∀ (l1 : Int32) (l2 : Int32)  (s : Sx) (Ia : Nat → Nat → Int32) (bc bs : Nat) (hPa : Rep Ia ad s) (hFa : FrE ad I Ia) (ho : o = f_7017_J69 l1 l2 s), R 69 [some (.ref (ad 3)), some (.int l1), some (.int l2)] [] (gW G Ia) bc bs := by
    intro l1 l2  s Ia bc bs  hPa hFa ho
    unfold f_7017_J69 at ho
    refine us_aload_n hR dX6_one_69 rfl ?_
    refine us_getR hR dX6_one_70 fR_7_20 (ev_k3 hE) rfl (ev_r_3_1 hE) ?_
    refine us_iload_n hR dX6_one_73 rfl ?_
    refine us_callV hR dX6_one_74 (y := 6002) (by decide +kernel) (by decide) (J := i6002) rfl rfl rfl rfl (ev_rk hE (by decide)) rfl (Nat.le_of_ble_eq_true rfl) (Nat.zero_le _) (Nat.zero_le _) ?_
    refine cR_get hE hPa 19 (by decide) ?_
    refine us_iret hR dX6_one_77 rfl rfl ?_
    subst ho
    exact h2 _ hPa hFa
  have h7017_J64 : ∀ (l1 : Int32) (l2 : Int32)  (s : Sx) (Ia : Nat → Nat → Int32) (bc bs : Nat) (hPa : Rep Ia ad s) (hFa : FrE ad I Ia) (ho : o = f_7017_J64 l1 l2 s), R 64 [some (.ref (ad 3)), some (.int l1), some (.int l2)] [] (gW G Ia) bc bs := by
    intro l1 l2  s Ia bc bs  hPa hFa ho
    unfold f_7017_J64 at ho
    refine us_aload_n hR dX6_one_64 rfl ?_
    refine us_iconstC hR dX6_one_65 (c := 4) (by decide) ?_
    refine us_callV hR dX6_one_66 (y := 7008) (by decide +kernel) (by decide) (J := i7008) rfl rfl rfl rfl (ev_k3 hE) rfl (Nat.le_of_ble_eq_true rfl) (Nat.zero_le _) (Nat.zero_le _) ?_
    refine sp_7008 hE hPa  (fun I2 s2 hs2 hP2 hF2 => ?_)
    rw [← hs2, bS_eq] at ho
    have hF2 := hFa.tr hF2
    exact h7017_J69 l1 l2  s2 I2 _ _ hP2 hF2 ho
  refine us_aload_n hR dX6_one_0 rfl ?_
  refine us_callV hR dX6_one_1 (y := 7009) (by decide +kernel) (by decide) (J := i7009) rfl rfl rfl rfl (ev_k3 hE) rfl (Nat.le_of_ble_eq_true rfl) (Nat.zero_le _) (Nat.zero_le _) ?_
  refine sp_7009 hE hP  (fun I3 q3 hs3 hb3 hP3 hF3 => ?_)
  rw [← hs3] at ho
  obtain ⟨s3, r3⟩ := q3
  rw [bT_eq] at ho
  have hF3 := hF.tr hF3
  refine us_if_ne hR dX6_one_4 9 (by decide) (fun c4 => ?_) (fun c4 => ?_)
  · rw [if_neg c4] at ho
    refine us_iload_n hR dX6_one_9 rfl ?_
    refine us_lsw hR dX6_one_10 (by decide) ⟨fun c5 => ⟨by decide, ?_⟩, fun c5_0 => ⟨fun c5 => ⟨by decide, ?_⟩, fun c5_1 => ⟨by decide, ?_⟩⟩⟩
    · rw [if_pos (i_sw (v := 25) c5)] at ho
      refine us_iload_n hR dX6_one_44 rfl ?_
      refine us_if_ne hR dX6_one_45 52 (by decide) (fun c6 => ?_) (fun c6 => ?_)
      · rw [if_neg c6] at ho
        refine us_iconstC hR dX6_one_52 (c := 0) (by decide) ?_
        refine us_iret hR dX6_one_53 rfl rfl ?_
        subst ho
        exact h2 _ hP3 hF3
      · rw [if_pos c6] at ho
        refine us_iconstC hR dX6_one_48 (c := 1) (by decide) ?_
        refine us_goto hR dX6_one_49 53 (by decide) ?_
        refine us_iret hR dX6_one_53 rfl rfl ?_
        subst ho
        exact h2 _ hP3 hF3
    · rw [if_neg (i_sw_x (v := 36) (w := 25) c5 (by decide)), if_pos (i_sw (v := 36) c5)] at ho
      refine us_aload_n hR dX6_one_36 rfl ?_
      refine us_iload_n hR dX6_one_37 rfl ?_
      refine us_i2l hR dX6_one_38 ?_
      refine us_lneg hR dX6_one_39 ?_
      refine us_callV hR dX6_one_40 (y := 7019) (by decide +kernel) (by decide) (J := i7019) rfl rfl rfl rfl (ev_k3 hE) rfl (Nat.le_of_ble_eq_true rfl) (Nat.zero_le _) (Nat.zero_le _) ?_
      refine sp_7019 hE hP3  (fun I7 q7 hs7 hP7 hF7 => ?_)
      rw [← hs7] at ho
      obtain ⟨s7, r7⟩ := q7
      rw [bT_eq] at ho
      have hF7 := hF3.tr hF7
      refine us_iret hR dX6_one_43 rfl rfl ?_
      subst ho
      exact h2 _ hP7 hF7
    · rw [if_neg (i_sw_n (v := 25) c5_0), if_neg (i_sw_n (v := 36) c5_1)] at ho
      refine us_iload_n hR dX6_one_54 rfl ?_
      refine us_if_lt hR dX6_one_55 64 (by decide) (fun c8 => ?_) (fun c8 => ?_)
      · rw [if_pos c8] at ho
        exact h7017_J64 x0 x1  s3 I3 _ _ hP3 hF3 ho
      · rw [if_neg c8] at ho
        refine us_iload_n hR dX6_one_58 rfl ?_
        refine us_bipushC hR dX6_one_59 (c := 32) (by decide) ?_
        refine us_icmp_lt hR dX6_one_61 69 (by decide) (fun c9 => ?_) (fun c9 => ?_)
        · rw [if_pos c9] at ho
          exact h7017_J69 x0 x1  s3 I3 _ _ hP3 hF3 ho
        · rw [if_neg c9] at ho
          exact h7017_J64 x0 x1  s3 I3 _ _ hP3 hF3 ho
  · rw [if_pos c4] at ho
    refine us_iconstC hR dX6_one_7 (c := 0) (by decide) ?_
    refine us_iret hR dX6_one_8 rfl rfl ?_
    subst ho
    exact h2 _ hP3 hF3
