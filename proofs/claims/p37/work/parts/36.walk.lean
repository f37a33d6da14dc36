/-! shadows: the walker -/
def f_10003  (s : Sx) : Sx :=
  bS (sB s 24 (xadd (ev_cap 24) (s.1 24) (s.2 12))) fun s1 =>
  bS (sV s1 13 1) fun s2 =>
  if (xg (s2.1 0) (s2.2 12)) = 34 then
    bS (sV s2 12 ((s2.2 12) + 2)) fun s8 =>
    s8
  else
    if (xg (s2.1 0) (s2.2 12)) = 35 then
      s2
    else
      bS (sV s2 12 ((s2.2 12) + 1)) fun s7 =>
      s7
theorem sp_10003 {d : Nat} {G : ab_G} {ad : Nat → Nat} {I : Nat → Nat → Int32} {s : Sx} {P : ab_Pq} {X : ab_Xq} (hE : EV G ad) (hL : LW G ad) (hP : Rep I ad s)   (h : ∀ I1 o, o = f_10003 s → Rep I1 ad o → FrE ad I I1 → P (gW G I1) none) : ab_Gam (d + 2) 10003 [.ref (ad 5)] (gW G I) P X := by
  obtain ⟨o, ho⟩ : ∃ o, o = f_10003 s := ⟨_, rfl⟩
  have h2 := fun I1 => h I1 o ho
  have hF : FrE ad I I := FrE_rfl
  unfold f_10003 at ho
  refine ab_enter (I := i10003) rfl (Nat.le_of_ble_eq_true rfl) (fun R hR => ?_)
  refine us_aload_n hR dX9_beginStatement_0 rfl ?_
  refine us_getR hR dX9_beginStatement_1 fR_10_20 (ev_k5 hE) rfl (ev_r_5_1 hE) ?_
  refine us_aload_n hR dX9_beginStatement_4 rfl ?_
  refine us_getIx hR dX9_beginStatement_5 fR_10_47 (ev_k5 hE) rfl (Rep_v hP 12 (by decide)) ?_
  refine us_callV hR dX9_beginStatement_8 (y := 6004) (by decide +kernel) (by decide) (J := i6004) rfl rfl rfl rfl (ev_rk hE (by decide)) rfl (Nat.le_of_ble_eq_true rfl) (Nat.zero_le _) (Nat.zero_le _) ?_
  refine cR_add hE hP 24 (by decide) (fun I1 s1 hs1 hP1 hF1 => ?_)
  rw [← hs1, bS_eq] at ho
  have hF1 := hF.tr hF1
  refine us_aload_n hR dX9_beginStatement_11 rfl ?_
  refine us_iconstC hR dX9_beginStatement_12 (c := 1) (by decide) ?_
  refine us_putIx hE hP1 13 (by decide) hR dX9_beginStatement_13 fR_10_51 (Or.inl rfl) (ev_k5 hE) rfl rfl (fun I2 s2 hs2 hP2 hF2 => ?_)
  rw [← hs2, bS_eq] at ho
  have hF2 := hF1.tr hF2
  refine us_aload_n hR dX9_beginStatement_16 rfl ?_
  refine us_getR hR dX9_beginStatement_17 fR_10_33 (ev_k5 hE) rfl hL.2.1 ?_
  refine us_getR hR dX9_beginStatement_20 fR_10_68 (ev_k1 hE) rfl (ev_r_1_0 hE) ?_
  refine us_aload_n hR dX9_beginStatement_23 rfl ?_
  refine us_getIx hR dX9_beginStatement_24 fR_10_47 (ev_k5 hE) rfl (Rep_v hP2 12 (by decide)) ?_
  refine us_callV hR dX9_beginStatement_27 (y := 6002) (by decide +kernel) (by decide) (J := i6002) rfl rfl rfl rfl (ev_rk hE (by decide)) rfl (Nat.le_of_ble_eq_true rfl) (Nat.zero_le _) (Nat.zero_le _) ?_
  refine cR_get hE hP2 0 (by decide) ?_
  refine us_bipushC hR dX9_beginStatement_30 (c := 34) (by decide) ?_
  refine us_icmp_ne hR dX9_beginStatement_32 48 (by decide) (fun c4 => ?_) (fun c4 => ?_)
  · rw [if_neg c4] at ho
    refine us_aload_n hR dX9_beginStatement_48 rfl ?_
    refine us_getR hR dX9_beginStatement_49 fR_10_33 (ev_k5 hE) rfl hL.2.1 ?_
    refine us_getR hR dX9_beginStatement_52 fR_10_68 (ev_k1 hE) rfl (ev_r_1_0 hE) ?_
    refine us_aload_n hR dX9_beginStatement_55 rfl ?_
    refine us_getIx hR dX9_beginStatement_56 fR_10_47 (ev_k5 hE) rfl (Rep_v hP2 12 (by decide)) ?_
    refine us_callV hR dX9_beginStatement_59 (y := 6002) (by decide +kernel) (by decide) (J := i6002) rfl rfl rfl rfl (ev_rk hE (by decide)) rfl (Nat.le_of_ble_eq_true rfl) (Nat.zero_le _) (Nat.zero_le _) ?_
    refine cR_get hE hP2 0 (by decide) ?_
    refine us_bipushC hR dX9_beginStatement_62 (c := 35) (by decide) ?_
    refine us_icmp_eq hR dX9_beginStatement_64 77 (by decide) (fun c6 => ?_) (fun c6 => ?_)
    · rw [if_pos c6] at ho
      refine us_vret hR dX9_beginStatement_77 rfl ?_
      subst ho
      exact h2 _ hP2 hF2
    · rw [if_neg c6] at ho
      refine us_aload_n hR dX9_beginStatement_67 rfl ?_
      refine us_dup hR dX9_beginStatement_68 rfl ?_
      refine us_getIx hR dX9_beginStatement_69 fR_10_47 (ev_k5 hE) rfl (Rep_v hP2 12 (by decide)) ?_
      refine us_iconstC hR dX9_beginStatement_72 (c := 1) (by decide) ?_
      refine us_iadd hR dX9_beginStatement_73 ?_
      refine us_putIx hE hP2 12 (by decide) hR dX9_beginStatement_74 fR_10_47 (Or.inl rfl) (ev_k5 hE) rfl rfl (fun I7 s7 hs7 hP7 hF7 => ?_)
      rw [← hs7, bS_eq] at ho
      have hF7 := hF2.tr hF7
      refine us_vret hR dX9_beginStatement_77 rfl ?_
      subst ho
      exact h2 _ hP7 hF7
  · rw [if_pos c4] at ho
    refine us_aload_n hR dX9_beginStatement_35 rfl ?_
    refine us_dup hR dX9_beginStatement_36 rfl ?_
    refine us_getIx hR dX9_beginStatement_37 fR_10_47 (ev_k5 hE) rfl (Rep_v hP2 12 (by decide)) ?_
    refine us_iconstC hR dX9_beginStatement_40 (c := 2) (by decide) ?_
    refine us_iadd hR dX9_beginStatement_41 ?_
    refine us_putIx hE hP2 12 (by decide) hR dX9_beginStatement_42 fR_10_47 (Or.inl rfl) (ev_k5 hE) rfl rfl (fun I8 s8 hs8 hP8 hF8 => ?_)
    rw [← hs8, bS_eq] at ho
    have hF8 := hF2.tr hF8
    refine us_goto hR dX9_beginStatement_45 77 (by decide) ?_
    refine us_vret hR dX9_beginStatement_77 rfl ?_
    subst ho
    exact h2 _ hP8 hF8
def f_10006 (x0 : Int32) (s : Sx) : Sx :=
  bS (sB s 23 (xadd (ev_cap 23) (s.1 23) x0)) fun s1 =>
  bS (sV s1 12 ((s1.2 12) + 1)) fun s2 =>
  bS (sV s2 13 2) fun s3 =>
  s3
theorem sp_10006 {d : Nat} {G : ab_G} {ad : Nat → Nat} {I : Nat → Nat → Int32} {s : Sx} {P : ab_Pq} {X : ab_Xq} (hE : EV G ad) (hL : LW G ad) (hP : Rep I ad s) {x0 : Int32}  (h : ∀ I1 o, o = f_10006 x0 s → Rep I1 ad o → FrE ad I I1 → P (gW G I1) none) : ab_Gam (d + 2) 10006 [.ref (ad 5), .int x0] (gW G I) P X := by
  obtain ⟨o, ho⟩ : ∃ o, o = f_10006 x0 s := ⟨_, rfl⟩
  have h2 := fun I1 => h I1 o ho
  have hF : FrE ad I I := FrE_rfl
  unfold f_10006 at ho
  refine ab_enter (I := i10006) rfl (Nat.le_of_ble_eq_true rfl) (fun R hR => ?_)
  refine us_aload_n hR dX9_value_0 rfl ?_
  refine us_getR hR dX9_value_1 fR_10_14 (ev_k5 hE) rfl (ev_r_5_0 hE) ?_
  refine us_iload_n hR dX9_value_4 rfl ?_
  refine us_callV hR dX9_value_5 (y := 6004) (by decide +kernel) (by decide) (J := i6004) rfl rfl rfl rfl (ev_rk hE (by decide)) rfl (Nat.le_of_ble_eq_true rfl) (Nat.zero_le _) (Nat.zero_le _) ?_
  refine cR_add hE hP 23 (by decide) (fun I1 s1 hs1 hP1 hF1 => ?_)
  rw [← hs1, bS_eq] at ho
  have hF1 := hF.tr hF1
  refine us_aload_n hR dX9_value_8 rfl ?_
  refine us_dup hR dX9_value_9 rfl ?_
  refine us_getIx hR dX9_value_10 fR_10_47 (ev_k5 hE) rfl (Rep_v hP1 12 (by decide)) ?_
  refine us_iconstC hR dX9_value_13 (c := 1) (by decide) ?_
  refine us_iadd hR dX9_value_14 ?_
  refine us_putIx hE hP1 12 (by decide) hR dX9_value_15 fR_10_47 (Or.inl rfl) (ev_k5 hE) rfl rfl (fun I2 s2 hs2 hP2 hF2 => ?_)
  rw [← hs2, bS_eq] at ho
  have hF2 := hF1.tr hF2
  refine us_aload_n hR dX9_value_18 rfl ?_
  refine us_iconstC hR dX9_value_19 (c := 2) (by decide) ?_
  refine us_putIx hE hP2 13 (by decide) hR dX9_value_20 fR_10_51 (Or.inl rfl) (ev_k5 hE) rfl rfl (fun I3 s3 hs3 hP3 hF3 => ?_)
  rw [← hs3, bS_eq] at ho
  have hF3 := hF2.tr hF3
  refine us_vret hR dX9_value_23 rfl ?_
  subst ho
  exact h2 _ hP3 hF3
def f_10012  (s : Sx) : Int32 :=
  if (xg (s.1 0) (xg (s.1 1) (s.2 12))) = 6 then
    ((xg (s.1 1) (s.2 12)) + 2)
  else
    (xg (s.1 1) (s.2 12))
theorem sp_10012 {d : Nat} {G : ab_G} {ad : Nat → Nat} {I : Nat → Nat → Int32} {s : Sx} {P : ab_Pq} {X : ab_Xq} (hE : EV G ad) (hL : LW G ad) (hP : Rep I ad s)   (h : P (gW G I) (some (.int (f_10012 s)))) : ab_Gam (d + 2) 10012 [.ref (ad 5)] (gW G I) P X := by
  obtain ⟨o, ho⟩ : ∃ o, o = f_10012 s := ⟨_, rfl⟩
  rw [← ho] at h
  have h2 := h
  have hF : FrE ad I I := FrE_rfl
  unfold f_10012 at ho
  refine ab_enter (I := i10012) rfl (Nat.le_of_ble_eq_true rfl) (fun R hR => ?_)
  refine us_aload_n hR dX9_otherBlock_0 rfl ?_
  refine us_getR hR dX9_otherBlock_1 fR_10_33 (ev_k5 hE) rfl hL.2.1 ?_
  refine us_getR hR dX9_otherBlock_4 fR_10_83 (ev_k1 hE) rfl (ev_r_1_1 hE) ?_
  refine us_aload_n hR dX9_otherBlock_7 rfl ?_
  refine us_getIx hR dX9_otherBlock_8 fR_10_47 (ev_k5 hE) rfl (Rep_v hP 12 (by decide)) ?_
  refine us_callV hR dX9_otherBlock_11 (y := 6002) (by decide +kernel) (by decide) (J := i6002) rfl rfl rfl rfl (ev_rk hE (by decide)) rfl (Nat.le_of_ble_eq_true rfl) (Nat.zero_le _) (Nat.zero_le _) ?_
  refine cR_get hE hP 1 (by decide) ?_
  refine us_istore_n hR dX9_otherBlock_14 (Nat.le_of_ble_eq_true rfl) ?_
  refine us_aload_n hR dX9_otherBlock_15 rfl ?_
  refine us_getR hR dX9_otherBlock_16 fR_10_33 (ev_k5 hE) rfl hL.2.1 ?_
  refine us_getR hR dX9_otherBlock_19 fR_10_68 (ev_k1 hE) rfl (ev_r_1_0 hE) ?_
  refine us_iload_n hR dX9_otherBlock_22 rfl ?_
  refine us_callV hR dX9_otherBlock_23 (y := 6002) (by decide +kernel) (by decide) (J := i6002) rfl rfl rfl rfl (ev_rk hE (by decide)) rfl (Nat.le_of_ble_eq_true rfl) (Nat.zero_le _) (Nat.zero_le _) ?_
  refine cR_get hE hP 0 (by decide) ?_
  refine us_bipushC hR dX9_otherBlock_26 (c := 6) (by decide) ?_
  refine us_icmp_ne hR dX9_otherBlock_28 37 (by decide) (fun c3 => ?_) (fun c3 => ?_)
  · rw [if_neg c3] at ho
    refine us_iload_n hR dX9_otherBlock_37 rfl ?_
    refine us_iret hR dX9_otherBlock_38 rfl rfl ?_
    subst ho
    exact h2
  · rw [if_pos c3] at ho
    refine us_iload_n hR dX9_otherBlock_31 rfl ?_
    refine us_iconstC hR dX9_otherBlock_32 (c := 2) (by decide) ?_
    refine us_iadd hR dX9_otherBlock_33 ?_
    refine us_goto hR dX9_otherBlock_34 38 (by decide) ?_
    refine us_iret hR dX9_otherBlock_38 rfl rfl ?_
    subst ho
    exact h2
def f_10014  (s : Sx) : Sx :=
  bT (f_7016 s) fun s1 r1 =>
  bS (sV s1 12 r1) fun s2 =>
  bS (sV s2 13 2) fun s3 =>
  s3
theorem sp_10014 {d : Nat} {G : ab_G} {ad : Nat → Nat} {I : Nat → Nat → Int32} {s : Sx} {P : ab_Pq} {X : ab_Xq} (hE : EV G ad) (hL : LW G ad) (hP : Rep I ad s)   (h : ∀ I1 o, o = f_10014 s → Rep I1 ad o → FrE ad I I1 → P (gW G I1) none) : ab_Gam (d + 3) 10014 [.ref (ad 5)] (gW G I) P X := by
  obtain ⟨o, ho⟩ : ∃ o, o = f_10014 s := ⟨_, rfl⟩
  have h2 := fun I1 => h I1 o ho
  have hF : FrE ad I I := FrE_rfl
  unfold f_10014 at ho
  refine ab_enter (I := i10014) rfl (Nat.le_of_ble_eq_true rfl) (fun R hR => ?_)
  refine us_aload_n hR dX9_endCall_0 rfl ?_
  refine us_aload_n hR dX9_endCall_1 rfl ?_
  refine us_getR hR dX9_endCall_2 fR_10_34 (ev_k5 hE) rfl hL.2.2 ?_
  refine us_callV hR dX9_endCall_5 (y := 7016) (by decide +kernel) (by decide) (J := i7016) rfl rfl rfl rfl (ev_k3 hE) rfl (Nat.le_of_ble_eq_true rfl) (Nat.zero_le _) (Nat.zero_le _) ?_
  refine sp_7016 hE hP  (fun I1 q1 hs1 hP1 hF1 => ?_)
  rw [← hs1] at ho
  obtain ⟨s1, r1⟩ := q1
  rw [bT_eq] at ho
  have hF1 := hF.tr hF1
  refine us_putIx hE hP1 12 (by decide) hR dX9_endCall_8 fR_10_47 (Or.inl rfl) (ev_k5 hE) rfl rfl (fun I2 s2 hs2 hP2 hF2 => ?_)
  rw [← hs2, bS_eq] at ho
  have hF2 := hF1.tr hF2
  refine us_aload_n hR dX9_endCall_11 rfl ?_
  refine us_iconstC hR dX9_endCall_12 (c := 2) (by decide) ?_
  refine us_putIx hE hP2 13 (by decide) hR dX9_endCall_13 fR_10_51 (Or.inl rfl) (ev_k5 hE) rfl rfl (fun I3 s3 hs3 hP3 hF3 => ?_)
  rw [← hs3, bS_eq] at ho
  have hF3 := hF2.tr hF3
  refine us_vret hR dX9_endCall_16 rfl ?_
  subst ho
  exact h2 _ hP3 hF3
def f_10013_L47  : Nat → Int32 → Int32 → Sx → Option Sx
  | 0, _, _, _ => none
  | n + 1, l1, l2, s =>
    if l2 < 0 then
      bS (sV s 12 ((f_4014 l1 s) + 1)) fun s3 =>
      bS (sV s3 13 0) fun s4 =>
      some s4
    else
      bT (sB s 23 (s.1 23).dropLast, xlast (s.1 23)) fun s5 r5 =>
      bS (f_7014 l2 r5 s5) fun s6 =>
      f_10013_L47 n l1 (l2 + (-1)) s6
def f_10013  (s : Sx) : Option Sx :=
  bT (sB s 24 (s.1 24).dropLast, xlast (s.1 24)) fun s7 r7 =>
  bO (f_7015 ((s7.2 12) + 1) s7) fun s9 r9 =>
  if r9 = 0 then
    some s9
  else
    f_10013_L47 400 (xg (s7.1 1) (r7 - 1)) ((f_4013 (xg (s7.1 1) (r7 - 1)) s9) - 1) s9
theorem sp_10013 {d : Nat} {G : ab_G} {ad : Nat → Nat} {I : Nat → Nat → Int32} {s : Sx} {P : ab_Pq} {X : ab_Xq} (hE : EV G ad) (hL : LW G ad) (hP : Rep I ad s)   {o : Sx} (ho : f_10013 s = some o) (h : ∀ I1, Rep I1 ad o → FrE ad I I1 → P (gW G I1) none) : ab_Gam (d + 4) 10013 [.ref (ad 5)] (gW G I) P X := by
  have h2 := h
  have hF : FrE ad I I := FrE_rfl
  unfold f_10013 at ho
  refine ab_enter (I := i10013) rfl (Nat.le_of_ble_eq_true rfl) (fun R hR => ?_)
  have h10013_L47 : ∀ (n : Nat) (l1 : Int32) (l2 : Int32)  (s : Sx) (Ia : Nat → Nat → Int32) (bc bs : Nat) (hPa : Rep Ia ad s) (hFa : FrE ad I Ia) (ho : f_10013_L47 n l1 l2 s = some o), R 47 [some (.ref (ad 5)), some (.int l1), some (.int l2)] [] (gW G Ia) bc bs := by
    intro n
    induction n with
    | zero => intro l1 l2  s Ia bc bs  hPa hFa ho; exact absurd ho (by intro hc; cases hc)
    | succ n47 ih47 =>
      intro l1 l2  s Ia bc bs  hPa hFa ho
      rw [f_10013_L47] at ho
      refine us_iload_n hR dX9_call_47 rfl ?_
      refine us_if_lt hR dX9_call_48 72 (by decide) (fun c1 => ?_) (fun c1 => ?_)
      · rw [if_pos c1] at ho
        refine us_aload_n hR dX9_call_72 rfl ?_
        refine us_aload_n hR dX9_call_73 rfl ?_
        refine us_getR hR dX9_call_74 fR_10_23 (ev_k5 hE) rfl hL.1 ?_
        refine us_iload_n hR dX9_call_77 rfl ?_
        refine us_callV hR dX9_call_78 (y := 4014) (by decide +kernel) (by decide) (J := i4014) rfl rfl rfl rfl (ev_k0 hE) rfl (Nat.le_of_ble_eq_true rfl) (Nat.zero_le _) (Nat.zero_le _) ?_
        refine sp_4014 hE hPa  ?_
        refine us_iconstC hR dX9_call_81 (c := 1) (by decide) ?_
        refine us_iadd hR dX9_call_82 ?_
        refine us_putIx hE hPa 12 (by decide) hR dX9_call_83 fR_10_47 (Or.inl rfl) (ev_k5 hE) rfl rfl (fun I3 s3 hs3 hP3 hF3 => ?_)
        rw [← hs3, bS_eq] at ho
        have hF3 := hFa.tr hF3
        refine us_aload_n hR dX9_call_86 rfl ?_
        refine us_iconstC hR dX9_call_87 (c := 0) (by decide) ?_
        refine us_putIx hE hP3 13 (by decide) hR dX9_call_88 fR_10_51 (Or.inl rfl) (ev_k5 hE) rfl rfl (fun I4 s4 hs4 hP4 hF4 => ?_)
        rw [← hs4, bS_eq] at ho
        have hF4 := hF3.tr hF4
        refine us_vret hR dX9_call_91 rfl ?_
        cases ho
        exact h2 _ hP4 hF4
      · rw [if_neg c1] at ho
        refine us_aload_n hR dX9_call_51 rfl ?_
        refine us_getR hR dX9_call_52 fR_10_34 (ev_k5 hE) rfl hL.2.2 ?_
        refine us_iload_n hR dX9_call_55 rfl ?_
        refine us_aload_n hR dX9_call_56 rfl ?_
        refine us_getR hR dX9_call_57 fR_10_14 (ev_k5 hE) rfl (ev_r_5_0 hE) ?_
        refine us_callV hR dX9_call_60 (y := 6006) (by decide +kernel) (by decide) (J := i6006) rfl rfl rfl rfl (ev_rk hE (by decide)) rfl (Nat.le_of_ble_eq_true rfl) (Nat.zero_le _) (Nat.zero_le _) ?_
        refine cR_takeLast hE hPa 23 (by decide) (fun I5 q5 hs5 hP5 hF5 => ?_)
        rw [← hs5] at ho
        obtain ⟨s5, r5⟩ := q5
        rw [bT_eq] at ho
        have hF5 := hFa.tr hF5
        refine us_callV hR dX9_call_63 (y := 7014) (by decide +kernel) (by decide) (J := i7014) rfl rfl rfl rfl (ev_k3 hE) rfl (Nat.le_of_ble_eq_true rfl) (Nat.zero_le _) (Nat.zero_le _) ?_
        refine sp_7014 hE hP5  (fun I6 s6 hs6 hP6 hF6 => ?_)
        rw [← hs6, bS_eq] at ho
        have hF6 := hF5.tr hF6
        refine us_iincC hR dX9_call_66 rfl (Nat.le_of_ble_eq_true rfl) (c := (-1)) (by decide) ?_
        refine us_goto hR dX9_call_69 47 (by decide) ?_
        exact ih47 l1 (l2 + (-1))  s6 I6 _ _ hP6 hF6 ho
  refine us_aload_n hR dX9_call_0 rfl ?_
  refine us_getR hR dX9_call_1 fR_10_33 (ev_k5 hE) rfl hL.2.1 ?_
  refine us_getR hR dX9_call_4 fR_10_83 (ev_k1 hE) rfl (ev_r_1_1 hE) ?_
  refine us_aload_n hR dX9_call_7 rfl ?_
  refine us_getR hR dX9_call_8 fR_10_20 (ev_k5 hE) rfl (ev_r_5_1 hE) ?_
  refine us_callV hR dX9_call_11 (y := 6006) (by decide +kernel) (by decide) (J := i6006) rfl rfl rfl rfl (ev_rk hE (by decide)) rfl (Nat.le_of_ble_eq_true rfl) (Nat.zero_le _) (Nat.zero_le _) ?_
  refine cR_takeLast hE hP 24 (by decide) (fun I7 q7 hs7 hP7 hF7 => ?_)
  rw [← hs7] at ho
  obtain ⟨s7, r7⟩ := q7
  rw [bT_eq] at ho
  have hF7 := hF.tr hF7
  refine us_iconstC hR dX9_call_14 (c := 1) (by decide) ?_
  refine us_isub hR dX9_call_15 ?_
  refine us_callV hR dX9_call_16 (y := 6002) (by decide +kernel) (by decide) (J := i6002) rfl rfl rfl rfl (ev_rk hE (by decide)) rfl (Nat.le_of_ble_eq_true rfl) (Nat.zero_le _) (Nat.zero_le _) ?_
  refine cR_get hE hP7 1 (by decide) ?_
  refine us_istore_n hR dX9_call_19 (Nat.le_of_ble_eq_true rfl) ?_
  refine us_aload_n hR dX9_call_20 rfl ?_
  refine us_getR hR dX9_call_21 fR_10_34 (ev_k5 hE) rfl hL.2.2 ?_
  refine us_aload_n hR dX9_call_24 rfl ?_
  refine us_getIx hR dX9_call_25 fR_10_47 (ev_k5 hE) rfl (Rep_v hP7 12 (by decide)) ?_
  refine us_iconstC hR dX9_call_28 (c := 1) (by decide) ?_
  refine us_iadd hR dX9_call_29 ?_
  refine us_callV hR dX9_call_30 (y := 7015) (by decide +kernel) (by decide) (J := i7015) rfl rfl rfl rfl (ev_k3 hE) rfl (Nat.le_of_ble_eq_true rfl) (Nat.zero_le _) (Nat.zero_le _) ?_
  obtain ⟨q9, hs9⟩ := bO_ex ho
  obtain ⟨s9, r9⟩ := q9
  replace ho := bO_go ho hs9
  refine sp_7015 hE hP7  hs9 (fun I9 hb9 hP9 hF9 => ?_)
  have hF9 := hF7.tr hF9
  refine us_if_eq hR dX9_call_33 91 (by decide) (fun c10 => ?_) (fun c10 => ?_)
  · rw [if_pos c10] at ho
    refine us_vret hR dX9_call_91 rfl ?_
    cases ho
    exact h2 _ hP9 hF9
  · rw [if_neg c10] at ho
    refine us_aload_n hR dX9_call_36 rfl ?_
    refine us_getR hR dX9_call_37 fR_10_23 (ev_k5 hE) rfl hL.1 ?_
    refine us_iload_n hR dX9_call_40 rfl ?_
    refine us_callV hR dX9_call_41 (y := 4013) (by decide +kernel) (by decide) (J := i4013) rfl rfl rfl rfl (ev_k0 hE) rfl (Nat.le_of_ble_eq_true rfl) (Nat.zero_le _) (Nat.zero_le _) ?_
    refine sp_4013 hE hP9  ?_
    refine us_iconstC hR dX9_call_44 (c := 1) (by decide) ?_
    refine us_isub hR dX9_call_45 ?_
    refine us_istore_n hR dX9_call_46 (Nat.le_of_ble_eq_true rfl) ?_
    exact h10013_L47 _ (xg (s7.1 1) (r7 - 1)) ((f_4013 (xg (s7.1 1) (r7 - 1)) s9) - 1)  s9 I9 _ _ hP9 hF9 ho
def f_10004  (s : Sx) : Sx :=
  if (xg (s.1 0) (xg (s.1 1) (s.2 12))) = 7 then
    bS (sV s 12 (xg (s.1 1) (s.2 12))) fun s4 =>
    s4
  else if (xg (s.1 0) (xg (s.1 1) (s.2 12))) = 10 then
    bS (sB s 23 (xadd (ev_cap 23) (s.1 23) 0)) fun s5 =>
    bS (f_10014 s5) fun s6 =>
    s6
  else
    bS (sV s 12 ((s.2 12) + 1)) fun s7 =>
    if (xg (s7.1 0) (s7.2 12)) = 6 then
      bS (sV s7 12 (xg (s7.1 1) ((s7.2 12) + 1))) fun s11 =>
      s11
    else
      s7
theorem sp_10004 {d : Nat} {G : ab_G} {ad : Nat → Nat} {I : Nat → Nat → Int32} {s : Sx} {P : ab_Pq} {X : ab_Xq} (hE : EV G ad) (hL : LW G ad) (hP : Rep I ad s)   (h : ∀ I1 o, o = f_10004 s → Rep I1 ad o → FrE ad I I1 → P (gW G I1) none) : ab_Gam (d + 4) 10004 [.ref (ad 5)] (gW G I) P X := by
  obtain ⟨o, ho⟩ : ∃ o, o = f_10004 s := ⟨_, rfl⟩
  have h2 := fun I1 => h I1 o ho
  have hF : FrE ad I I := FrE_rfl
  unfold f_10004 at ho
  refine ab_enter (I := i10004) rfl (Nat.le_of_ble_eq_true rfl) (fun R hR => ?_)
  refine us_aload_n hR dX9_endBlock_0 rfl ?_
  refine us_getR hR dX9_endBlock_1 fR_10_33 (ev_k5 hE) rfl hL.2.1 ?_
  refine us_getR hR dX9_endBlock_4 fR_10_83 (ev_k1 hE) rfl (ev_r_1_1 hE) ?_
  refine us_aload_n hR dX9_endBlock_7 rfl ?_
  refine us_getIx hR dX9_endBlock_8 fR_10_47 (ev_k5 hE) rfl (Rep_v hP 12 (by decide)) ?_
  refine us_callV hR dX9_endBlock_11 (y := 6002) (by decide +kernel) (by decide) (J := i6002) rfl rfl rfl rfl (ev_rk hE (by decide)) rfl (Nat.le_of_ble_eq_true rfl) (Nat.zero_le _) (Nat.zero_le _) ?_
  refine cR_get hE hP 1 (by decide) ?_
  refine us_istore_n hR dX9_endBlock_14 (Nat.le_of_ble_eq_true rfl) ?_
  refine us_aload_n hR dX9_endBlock_15 rfl ?_
  refine us_getR hR dX9_endBlock_16 fR_10_33 (ev_k5 hE) rfl hL.2.1 ?_
  refine us_getR hR dX9_endBlock_19 fR_10_68 (ev_k1 hE) rfl (ev_r_1_0 hE) ?_
  refine us_iload_n hR dX9_endBlock_22 rfl ?_
  refine us_callV hR dX9_endBlock_23 (y := 6002) (by decide +kernel) (by decide) (J := i6002) rfl rfl rfl rfl (ev_rk hE (by decide)) rfl (Nat.le_of_ble_eq_true rfl) (Nat.zero_le _) (Nat.zero_le _) ?_
  refine cR_get hE hP 0 (by decide) ?_
  refine us_lsw hR dX9_endBlock_26 (by decide) ⟨fun c3 => ⟨by decide, ?_⟩, fun c3_0 => ⟨fun c3 => ⟨by decide, ?_⟩, fun c3_1 => ⟨by decide, ?_⟩⟩⟩
  · rw [if_pos (i_sw (v := 7) c3)] at ho
    refine us_aload_n hR dX9_endBlock_52 rfl ?_
    refine us_iload_n hR dX9_endBlock_53 rfl ?_
    refine us_putIx hE hP 12 (by decide) hR dX9_endBlock_54 fR_10_47 (Or.inl rfl) (ev_k5 hE) rfl rfl (fun I4 s4 hs4 hP4 hF4 => ?_)
    rw [← hs4, bS_eq] at ho
    have hF4 := hF.tr hF4
    refine us_goto hR dX9_endBlock_57 124 (by decide) ?_
    refine us_vret hR dX9_endBlock_124 rfl ?_
    subst ho
    exact h2 _ hP4 hF4
  · rw [if_neg (i_sw_x (v := 10) (w := 7) c3 (by decide)), if_pos (i_sw (v := 10) c3)] at ho
    refine us_aload_n hR dX9_endBlock_60 rfl ?_
    refine us_getR hR dX9_endBlock_61 fR_10_14 (ev_k5 hE) rfl (ev_r_5_0 hE) ?_
    refine us_iconstC hR dX9_endBlock_64 (c := 0) (by decide) ?_
    refine us_callV hR dX9_endBlock_65 (y := 6004) (by decide +kernel) (by decide) (J := i6004) rfl rfl rfl rfl (ev_rk hE (by decide)) rfl (Nat.le_of_ble_eq_true rfl) (Nat.zero_le _) (Nat.zero_le _) ?_
    refine cR_add hE hP 23 (by decide) (fun I5 s5 hs5 hP5 hF5 => ?_)
    rw [← hs5, bS_eq] at ho
    have hF5 := hF.tr hF5
    refine us_aload_n hR dX9_endBlock_68 rfl ?_
    refine us_callV hR dX9_endBlock_69 (y := 10014) (by decide +kernel) (by decide) (J := i10014) rfl rfl rfl rfl (ev_k5 hE) rfl (Nat.le_of_ble_eq_true rfl) (Nat.zero_le _) (Nat.zero_le _) ?_
    refine sp_10014 hE hL hP5  (fun I6 s6 hs6 hP6 hF6 => ?_)
    rw [← hs6, bS_eq] at ho
    have hF6 := hF5.tr hF6
    refine us_goto hR dX9_endBlock_72 124 (by decide) ?_
    refine us_vret hR dX9_endBlock_124 rfl ?_
    subst ho
    exact h2 _ hP6 hF6
  · rw [if_neg (i_sw_n (v := 7) c3_0), if_neg (i_sw_n (v := 10) c3_1)] at ho
    refine us_aload_n hR dX9_endBlock_75 rfl ?_
    refine us_dup hR dX9_endBlock_76 rfl ?_
    refine us_getIx hR dX9_endBlock_77 fR_10_47 (ev_k5 hE) rfl (Rep_v hP 12 (by decide)) ?_
    refine us_iconstC hR dX9_endBlock_80 (c := 1) (by decide) ?_
    refine us_iadd hR dX9_endBlock_81 ?_
    refine us_putIx hE hP 12 (by decide) hR dX9_endBlock_82 fR_10_47 (Or.inl rfl) (ev_k5 hE) rfl rfl (fun I7 s7 hs7 hP7 hF7 => ?_)
    rw [← hs7, bS_eq] at ho
    have hF7 := hF.tr hF7
    refine us_aload_n hR dX9_endBlock_85 rfl ?_
    refine us_getR hR dX9_endBlock_86 fR_10_33 (ev_k5 hE) rfl hL.2.1 ?_
    refine us_getR hR dX9_endBlock_89 fR_10_68 (ev_k1 hE) rfl (ev_r_1_0 hE) ?_
    refine us_aload_n hR dX9_endBlock_92 rfl ?_
    refine us_getIx hR dX9_endBlock_93 fR_10_47 (ev_k5 hE) rfl (Rep_v hP7 12 (by decide)) ?_
    refine us_callV hR dX9_endBlock_96 (y := 6002) (by decide +kernel) (by decide) (J := i6002) rfl rfl rfl rfl (ev_rk hE (by decide)) rfl (Nat.le_of_ble_eq_true rfl) (Nat.zero_le _) (Nat.zero_le _) ?_
    refine cR_get hE hP7 0 (by decide) ?_
    refine us_bipushC hR dX9_endBlock_99 (c := 6) (by decide) ?_
    refine us_icmp_ne hR dX9_endBlock_101 124 (by decide) (fun c9 => ?_) (fun c9 => ?_)
    · rw [if_neg c9] at ho
      refine us_vret hR dX9_endBlock_124 rfl ?_
      subst ho
      exact h2 _ hP7 hF7
    · rw [if_pos c9] at ho
      refine us_aload_n hR dX9_endBlock_104 rfl ?_
      refine us_aload_n hR dX9_endBlock_105 rfl ?_
      refine us_getR hR dX9_endBlock_106 fR_10_33 (ev_k5 hE) rfl hL.2.1 ?_
      refine us_getR hR dX9_endBlock_109 fR_10_83 (ev_k1 hE) rfl (ev_r_1_1 hE) ?_
      refine us_aload_n hR dX9_endBlock_112 rfl ?_
      refine us_getIx hR dX9_endBlock_113 fR_10_47 (ev_k5 hE) rfl (Rep_v hP7 12 (by decide)) ?_
      refine us_iconstC hR dX9_endBlock_116 (c := 1) (by decide) ?_
      refine us_iadd hR dX9_endBlock_117 ?_
      refine us_callV hR dX9_endBlock_118 (y := 6002) (by decide +kernel) (by decide) (J := i6002) rfl rfl rfl rfl (ev_rk hE (by decide)) rfl (Nat.le_of_ble_eq_true rfl) (Nat.zero_le _) (Nat.zero_le _) ?_
      refine cR_get hE hP7 1 (by decide) ?_
      refine us_putIx hE hP7 12 (by decide) hR dX9_endBlock_121 fR_10_47 (Or.inl rfl) (ev_k5 hE) rfl rfl (fun I11 s11 hs11 hP11 hF11 => ?_)
      rw [← hs11, bS_eq] at ho
      have hF11 := hF7.tr hF11
      refine us_vret hR dX9_endBlock_124 rfl ?_
      subst ho
      exact h2 _ hP11 hF11
def f_10002  (s : Sx) : Sx :=
  if (xg (s.1 0) (s.2 12)) = 0 then
    bS (f_7008 0 s) fun s3 =>
    s3
  else if (xg (s.1 0) (s.2 12)) = 10 then
    bS (sV s 12 (xg (s.1 1) (s.2 12))) fun s5 =>
    s5
  else if (xg (s.1 0) (s.2 12)) = 31 then
    bS (f_10004 s) fun s6 =>
    s6
  else
    bT (f_7009 s) fun s7 r7 =>
    if r7 = 0 then
      s7
    else
      bS (f_10003 s7) fun s9 =>
      s9
theorem sp_10002 {d : Nat} {G : ab_G} {ad : Nat → Nat} {I : Nat → Nat → Int32} {s : Sx} {P : ab_Pq} {X : ab_Xq} (hE : EV G ad) (hL : LW G ad) (hP : Rep I ad s)   (h : ∀ I1 o, o = f_10002 s → Rep I1 ad o → FrE ad I I1 → P (gW G I1) none) : ab_Gam (d + 5) 10002 [.ref (ad 5)] (gW G I) P X := by
  obtain ⟨o, ho⟩ : ∃ o, o = f_10002 s := ⟨_, rfl⟩
  have h2 := fun I1 => h I1 o ho
  have hF : FrE ad I I := FrE_rfl
  unfold f_10002 at ho
  refine ab_enter (I := i10002) rfl (Nat.le_of_ble_eq_true rfl) (fun R hR => ?_)
  refine us_aload_n hR dX9_statement_0 rfl ?_
  refine us_getR hR dX9_statement_1 fR_10_33 (ev_k5 hE) rfl hL.2.1 ?_
  refine us_getR hR dX9_statement_4 fR_10_68 (ev_k1 hE) rfl (ev_r_1_0 hE) ?_
  refine us_aload_n hR dX9_statement_7 rfl ?_
  refine us_getIx hR dX9_statement_8 fR_10_47 (ev_k5 hE) rfl (Rep_v hP 12 (by decide)) ?_
  refine us_callV hR dX9_statement_11 (y := 6002) (by decide +kernel) (by decide) (J := i6002) rfl rfl rfl rfl (ev_rk hE (by decide)) rfl (Nat.le_of_ble_eq_true rfl) (Nat.zero_le _) (Nat.zero_le _) ?_
  refine cR_get hE hP 0 (by decide) ?_
  refine us_lsw hR dX9_statement_14 (by decide) ⟨fun c2 => ⟨by decide, ?_⟩, fun c2_0 => ⟨fun c2 => ⟨by decide, ?_⟩, fun c2_1 => ⟨fun c2 => ⟨by decide, ?_⟩, fun c2_2 => ⟨by decide, ?_⟩⟩⟩⟩
  · rw [if_pos (i_sw (v := 0) c2)] at ho
    refine us_aload_n hR dX9_statement_48 rfl ?_
    refine us_getR hR dX9_statement_49 fR_10_34 (ev_k5 hE) rfl hL.2.2 ?_
    refine us_iconstC hR dX9_statement_52 (c := 0) (by decide) ?_
    refine us_callV hR dX9_statement_53 (y := 7008) (by decide +kernel) (by decide) (J := i7008) rfl rfl rfl rfl (ev_k3 hE) rfl (Nat.le_of_ble_eq_true rfl) (Nat.zero_le _) (Nat.zero_le _) ?_
    refine sp_7008 hE hP  (fun I3 s3 hs3 hP3 hF3 => ?_)
    rw [← hs3, bS_eq] at ho
    have hF3 := hF.tr hF3
    refine us_goto hR dX9_statement_56 101 (by decide) ?_
    refine us_vret hR dX9_statement_101 rfl ?_
    subst ho
    exact h2 _ hP3 hF3
  · rw [if_neg (i_sw_x (v := 10) (w := 0) c2 (by decide)), if_pos (i_sw (v := 10) c2)] at ho
    refine us_aload_n hR dX9_statement_66 rfl ?_
    refine us_aload_n hR dX9_statement_67 rfl ?_
    refine us_getR hR dX9_statement_68 fR_10_33 (ev_k5 hE) rfl hL.2.1 ?_
    refine us_getR hR dX9_statement_71 fR_10_83 (ev_k1 hE) rfl (ev_r_1_1 hE) ?_
    refine us_aload_n hR dX9_statement_74 rfl ?_
    refine us_getIx hR dX9_statement_75 fR_10_47 (ev_k5 hE) rfl (Rep_v hP 12 (by decide)) ?_
    refine us_callV hR dX9_statement_78 (y := 6002) (by decide +kernel) (by decide) (J := i6002) rfl rfl rfl rfl (ev_rk hE (by decide)) rfl (Nat.le_of_ble_eq_true rfl) (Nat.zero_le _) (Nat.zero_le _) ?_
    refine cR_get hE hP 1 (by decide) ?_
    refine us_putIx hE hP 12 (by decide) hR dX9_statement_81 fR_10_47 (Or.inl rfl) (ev_k5 hE) rfl rfl (fun I5 s5 hs5 hP5 hF5 => ?_)
    rw [← hs5, bS_eq] at ho
    have hF5 := hF.tr hF5
    refine us_goto hR dX9_statement_84 101 (by decide) ?_
    refine us_vret hR dX9_statement_101 rfl ?_
    subst ho
    exact h2 _ hP5 hF5
  · rw [if_neg (i_sw_x (v := 31) (w := 0) c2 (by decide)), if_neg (i_sw_x (v := 31) (w := 10) c2 (by decide)), if_pos (i_sw (v := 31) c2)] at ho
    refine us_aload_n hR dX9_statement_59 rfl ?_
    refine us_callV hR dX9_statement_60 (y := 10004) (by decide +kernel) (by decide) (J := i10004) rfl rfl rfl rfl (ev_k5 hE) rfl (Nat.le_of_ble_eq_true rfl) (Nat.zero_le _) (Nat.zero_le _) ?_
    refine sp_10004 hE hL hP  (fun I6 s6 hs6 hP6 hF6 => ?_)
    rw [← hs6, bS_eq] at ho
    have hF6 := hF.tr hF6
    refine us_goto hR dX9_statement_63 101 (by decide) ?_
    refine us_vret hR dX9_statement_101 rfl ?_
    subst ho
    exact h2 _ hP6 hF6
  · rw [if_neg (i_sw_n (v := 0) c2_0), if_neg (i_sw_n (v := 10) c2_1), if_neg (i_sw_n (v := 31) c2_2)] at ho
    refine us_aload_n hR dX9_statement_87 rfl ?_
    refine us_getR hR dX9_statement_88 fR_10_34 (ev_k5 hE) rfl hL.2.2 ?_
    refine us_callV hR dX9_statement_91 (y := 7009) (by decide +kernel) (by decide) (J := i7009) rfl rfl rfl rfl (ev_k3 hE) rfl (Nat.le_of_ble_eq_true rfl) (Nat.zero_le _) (Nat.zero_le _) ?_
    refine sp_7009 hE hP  (fun I7 q7 hs7 hb7 hP7 hF7 => ?_)
    rw [← hs7] at ho
    obtain ⟨s7, r7⟩ := q7
    rw [bT_eq] at ho
    have hF7 := hF.tr hF7
    refine us_if_eq hR dX9_statement_94 101 (by decide) (fun c8 => ?_) (fun c8 => ?_)
    · rw [if_pos c8] at ho
      refine us_vret hR dX9_statement_101 rfl ?_
      subst ho
      exact h2 _ hP7 hF7
    · rw [if_neg c8] at ho
      refine us_aload_n hR dX9_statement_97 rfl ?_
      refine us_callV hR dX9_statement_98 (y := 10003) (by decide +kernel) (by decide) (J := i10003) rfl rfl rfl rfl (ev_k5 hE) rfl (Nat.le_of_ble_eq_true rfl) (Nat.zero_le _) (Nat.zero_le _) ?_
      refine sp_10003 hE hL hP7  (fun I9 s9 hs9 hP9 hF9 => ?_)
      rw [← hs9, bS_eq] at ho
      have hF9 := hF7.tr hF9
      refine us_vret hR dX9_statement_101 rfl ?_
      subst ho
      exact h2 _ hP9 hF9
def f_10005  (s : Sx) : Option Sx :=
  if (xg (s.1 0) (s.2 12)) = 3 then
    bS (f_10006 (xg (s.1 1) (s.2 12)) s) fun s4 =>
    some s4
  else if (xg (s.1 0) (s.2 12)) = 9 then
    bT (f_7010 s) fun s5 r5 =>
    bS (f_10006 r5 s5) fun s6 =>
    some s6
  else if (xg (s.1 0) (s.2 12)) = 34 then
    bS (f_10006 (f_7013 (xg (s.1 1) (s.2 12)) s) s) fun s9 =>
    some s9
  else if (xg (s.1 0) (s.2 12)) = 35 then
    bS (sB s 24 (xadd (ev_cap 24) (s.1 24) ((s.2 12) + 1))) fun s10 =>
    bS (sV s10 12 ((s10.2 12) + 2)) fun s11 =>
    if (xg (s11.1 0) (s11.2 12)) = 29 then
      bOv (f_10013 s11) fun s14 =>
      some s14
    else
      some s11
  else
    bS (sB s 24 (xadd (ev_cap 24) (s.1 24) (s.2 12))) fun s15 =>
    bS (sV s15 12 ((s15.2 12) + 1)) fun s16 =>
    some s16
theorem sp_10005 {d : Nat} {G : ab_G} {ad : Nat → Nat} {I : Nat → Nat → Int32} {s : Sx} {P : ab_Pq} {X : ab_Xq} (hE : EV G ad) (hL : LW G ad) (hP : Rep I ad s)   {o : Sx} (ho : f_10005 s = some o) (h : ∀ I1, Rep I1 ad o → FrE ad I I1 → P (gW G I1) none) : ab_Gam (d + 5) 10005 [.ref (ad 5)] (gW G I) P X := by
  have h2 := h
  have hF : FrE ad I I := FrE_rfl
  unfold f_10005 at ho
  refine ab_enter (I := i10005) rfl (Nat.le_of_ble_eq_true rfl) (fun R hR => ?_)
  refine us_aload_n hR dX9_operand_0 rfl ?_
  refine us_getR hR dX9_operand_1 fR_10_33 (ev_k5 hE) rfl hL.2.1 ?_
  refine us_getR hR dX9_operand_4 fR_10_68 (ev_k1 hE) rfl (ev_r_1_0 hE) ?_
  refine us_aload_n hR dX9_operand_7 rfl ?_
  refine us_getIx hR dX9_operand_8 fR_10_47 (ev_k5 hE) rfl (Rep_v hP 12 (by decide)) ?_
  refine us_callV hR dX9_operand_11 (y := 6002) (by decide +kernel) (by decide) (J := i6002) rfl rfl rfl rfl (ev_rk hE (by decide)) rfl (Nat.le_of_ble_eq_true rfl) (Nat.zero_le _) (Nat.zero_le _) ?_
  refine cR_get hE hP 0 (by decide) ?_
  refine us_lsw hR dX9_operand_14 (by decide) ⟨fun c2 => ⟨by decide, ?_⟩, fun c2_0 => ⟨fun c2 => ⟨by decide, ?_⟩, fun c2_1 => ⟨fun c2 => ⟨by decide, ?_⟩, fun c2_2 => ⟨fun c2 => ⟨by decide, ?_⟩, fun c2_3 => ⟨by decide, ?_⟩⟩⟩⟩⟩
  · rw [if_pos (i_sw (v := 3) c2)] at ho
    refine us_aload_n hR dX9_operand_56 rfl ?_
    refine us_aload_n hR dX9_operand_57 rfl ?_
    refine us_getR hR dX9_operand_58 fR_10_33 (ev_k5 hE) rfl hL.2.1 ?_
    refine us_getR hR dX9_operand_61 fR_10_83 (ev_k1 hE) rfl (ev_r_1_1 hE) ?_
    refine us_aload_n hR dX9_operand_64 rfl ?_
    refine us_getIx hR dX9_operand_65 fR_10_47 (ev_k5 hE) rfl (Rep_v hP 12 (by decide)) ?_
    refine us_callV hR dX9_operand_68 (y := 6002) (by decide +kernel) (by decide) (J := i6002) rfl rfl rfl rfl (ev_rk hE (by decide)) rfl (Nat.le_of_ble_eq_true rfl) (Nat.zero_le _) (Nat.zero_le _) ?_
    refine cR_get hE hP 1 (by decide) ?_
    refine us_callV hR dX9_operand_71 (y := 10006) (by decide +kernel) (by decide) (J := i10006) rfl rfl rfl rfl (ev_k5 hE) rfl (Nat.le_of_ble_eq_true rfl) (Nat.zero_le _) (Nat.zero_le _) ?_
    refine sp_10006 hE hL hP  (fun I4 s4 hs4 hP4 hF4 => ?_)
    rw [← hs4, bS_eq] at ho
    have hF4 := hF.tr hF4
    refine us_goto hR dX9_operand_74 189 (by decide) ?_
    refine us_vret hR dX9_operand_189 rfl ?_
    cases ho
    exact h2 _ hP4 hF4
  · rw [if_neg (i_sw_x (v := 9) (w := 3) c2 (by decide)), if_pos (i_sw (v := 9) c2)] at ho
    refine us_aload_n hR dX9_operand_105 rfl ?_
    refine us_aload_n hR dX9_operand_106 rfl ?_
    refine us_getR hR dX9_operand_107 fR_10_34 (ev_k5 hE) rfl hL.2.2 ?_
    refine us_callV hR dX9_operand_110 (y := 7010) (by decide +kernel) (by decide) (J := i7010) rfl rfl rfl rfl (ev_k3 hE) rfl (Nat.le_of_ble_eq_true rfl) (Nat.zero_le _) (Nat.zero_le _) ?_
    refine sp_7010 hE hP  (fun I5 q5 hs5 hP5 hF5 => ?_)
    rw [← hs5] at ho
    obtain ⟨s5, r5⟩ := q5
    rw [bT_eq] at ho
    have hF5 := hF.tr hF5
    refine us_callV hR dX9_operand_113 (y := 10006) (by decide +kernel) (by decide) (J := i10006) rfl rfl rfl rfl (ev_k5 hE) rfl (Nat.le_of_ble_eq_true rfl) (Nat.zero_le _) (Nat.zero_le _) ?_
    refine sp_10006 hE hL hP5  (fun I6 s6 hs6 hP6 hF6 => ?_)
    rw [← hs6, bS_eq] at ho
    have hF6 := hF5.tr hF6
    refine us_goto hR dX9_operand_116 189 (by decide) ?_
    refine us_vret hR dX9_operand_189 rfl ?_
    cases ho
    exact h2 _ hP6 hF6
  · rw [if_neg (i_sw_x (v := 34) (w := 3) c2 (by decide)), if_neg (i_sw_x (v := 34) (w := 9) c2 (by decide)), if_pos (i_sw (v := 34) c2)] at ho
    refine us_aload_n hR dX9_operand_77 rfl ?_
    refine us_aload_n hR dX9_operand_78 rfl ?_
    refine us_getR hR dX9_operand_79 fR_10_34 (ev_k5 hE) rfl hL.2.2 ?_
    refine us_aload_n hR dX9_operand_82 rfl ?_
    refine us_getR hR dX9_operand_83 fR_10_33 (ev_k5 hE) rfl hL.2.1 ?_
    refine us_getR hR dX9_operand_86 fR_10_83 (ev_k1 hE) rfl (ev_r_1_1 hE) ?_
    refine us_aload_n hR dX9_operand_89 rfl ?_
    refine us_getIx hR dX9_operand_90 fR_10_47 (ev_k5 hE) rfl (Rep_v hP 12 (by decide)) ?_
    refine us_callV hR dX9_operand_93 (y := 6002) (by decide +kernel) (by decide) (J := i6002) rfl rfl rfl rfl (ev_rk hE (by decide)) rfl (Nat.le_of_ble_eq_true rfl) (Nat.zero_le _) (Nat.zero_le _) ?_
    refine cR_get hE hP 1 (by decide) ?_
    refine us_callV hR dX9_operand_96 (y := 7013) (by decide +kernel) (by decide) (J := i7013) rfl rfl rfl rfl (ev_k3 hE) rfl (Nat.le_of_ble_eq_true rfl) (Nat.zero_le _) (Nat.zero_le _) ?_
    refine sp_7013 hE hP  ?_
    refine us_callV hR dX9_operand_99 (y := 10006) (by decide +kernel) (by decide) (J := i10006) rfl rfl rfl rfl (ev_k5 hE) rfl (Nat.le_of_ble_eq_true rfl) (Nat.zero_le _) (Nat.zero_le _) ?_
    refine sp_10006 hE hL hP  (fun I9 s9 hs9 hP9 hF9 => ?_)
    rw [← hs9, bS_eq] at ho
    have hF9 := hF.tr hF9
    refine us_goto hR dX9_operand_102 189 (by decide) ?_
    refine us_vret hR dX9_operand_189 rfl ?_
    cases ho
    exact h2 _ hP9 hF9
  · rw [if_neg (i_sw_x (v := 35) (w := 3) c2 (by decide)), if_neg (i_sw_x (v := 35) (w := 9) c2 (by decide)), if_neg (i_sw_x (v := 35) (w := 34) c2 (by decide)), if_pos (i_sw (v := 35) c2)] at ho
    refine us_aload_n hR dX9_operand_119 rfl ?_
    refine us_getR hR dX9_operand_120 fR_10_20 (ev_k5 hE) rfl (ev_r_5_1 hE) ?_
    refine us_aload_n hR dX9_operand_123 rfl ?_
    refine us_getIx hR dX9_operand_124 fR_10_47 (ev_k5 hE) rfl (Rep_v hP 12 (by decide)) ?_
    refine us_iconstC hR dX9_operand_127 (c := 1) (by decide) ?_
    refine us_iadd hR dX9_operand_128 ?_
    refine us_callV hR dX9_operand_129 (y := 6004) (by decide +kernel) (by decide) (J := i6004) rfl rfl rfl rfl (ev_rk hE (by decide)) rfl (Nat.le_of_ble_eq_true rfl) (Nat.zero_le _) (Nat.zero_le _) ?_
    refine cR_add hE hP 24 (by decide) (fun I10 s10 hs10 hP10 hF10 => ?_)
    rw [← hs10, bS_eq] at ho
    have hF10 := hF.tr hF10
    refine us_aload_n hR dX9_operand_132 rfl ?_
    refine us_dup hR dX9_operand_133 rfl ?_
    refine us_getIx hR dX9_operand_134 fR_10_47 (ev_k5 hE) rfl (Rep_v hP10 12 (by decide)) ?_
    refine us_iconstC hR dX9_operand_137 (c := 2) (by decide) ?_
    refine us_iadd hR dX9_operand_138 ?_
    refine us_putIx hE hP10 12 (by decide) hR dX9_operand_139 fR_10_47 (Or.inl rfl) (ev_k5 hE) rfl rfl (fun I11 s11 hs11 hP11 hF11 => ?_)
    rw [← hs11, bS_eq] at ho
    have hF11 := hF10.tr hF11
    refine us_aload_n hR dX9_operand_142 rfl ?_
    refine us_getR hR dX9_operand_143 fR_10_33 (ev_k5 hE) rfl hL.2.1 ?_
    refine us_getR hR dX9_operand_146 fR_10_68 (ev_k1 hE) rfl (ev_r_1_0 hE) ?_
    refine us_aload_n hR dX9_operand_149 rfl ?_
    refine us_getIx hR dX9_operand_150 fR_10_47 (ev_k5 hE) rfl (Rep_v hP11 12 (by decide)) ?_
    refine us_callV hR dX9_operand_153 (y := 6002) (by decide +kernel) (by decide) (J := i6002) rfl rfl rfl rfl (ev_rk hE (by decide)) rfl (Nat.le_of_ble_eq_true rfl) (Nat.zero_le _) (Nat.zero_le _) ?_
    refine cR_get hE hP11 0 (by decide) ?_
    refine us_bipushC hR dX9_operand_156 (c := 29) (by decide) ?_
    refine us_icmp_ne hR dX9_operand_158 189 (by decide) (fun c13 => ?_) (fun c13 => ?_)
    · rw [if_neg c13] at ho
      refine us_vret hR dX9_operand_189 rfl ?_
      cases ho
      exact h2 _ hP11 hF11
    · rw [if_pos c13] at ho
      refine us_aload_n hR dX9_operand_161 rfl ?_
      refine us_callV hR dX9_operand_162 (y := 10013) (by decide +kernel) (by decide) (J := i10013) rfl rfl rfl rfl (ev_k5 hE) rfl (Nat.le_of_ble_eq_true rfl) (Nat.zero_le _) (Nat.zero_le _) ?_
      obtain ⟨s14, hs14⟩ := bOv_ex ho
      replace ho := bOv_go ho hs14
      refine sp_10013 hE hL hP11  hs14 (fun I14 hP14 hF14 => ?_)
      have hF14 := hF11.tr hF14
      refine us_goto hR dX9_operand_165 189 (by decide) ?_
      refine us_vret hR dX9_operand_189 rfl ?_
      cases ho
      exact h2 _ hP14 hF14
  · rw [if_neg (i_sw_n (v := 3) c2_0), if_neg (i_sw_n (v := 9) c2_1), if_neg (i_sw_n (v := 34) c2_2), if_neg (i_sw_n (v := 35) c2_3)] at ho
    refine us_aload_n hR dX9_operand_168 rfl ?_
    refine us_getR hR dX9_operand_169 fR_10_20 (ev_k5 hE) rfl (ev_r_5_1 hE) ?_
    refine us_aload_n hR dX9_operand_172 rfl ?_
    refine us_getIx hR dX9_operand_173 fR_10_47 (ev_k5 hE) rfl (Rep_v hP 12 (by decide)) ?_
    refine us_callV hR dX9_operand_176 (y := 6004) (by decide +kernel) (by decide) (J := i6004) rfl rfl rfl rfl (ev_rk hE (by decide)) rfl (Nat.le_of_ble_eq_true rfl) (Nat.zero_le _) (Nat.zero_le _) ?_
    refine cR_add hE hP 24 (by decide) (fun I15 s15 hs15 hP15 hF15 => ?_)
    rw [← hs15, bS_eq] at ho
    have hF15 := hF.tr hF15
    refine us_aload_n hR dX9_operand_179 rfl ?_
    refine us_dup hR dX9_operand_180 rfl ?_
    refine us_getIx hR dX9_operand_181 fR_10_47 (ev_k5 hE) rfl (Rep_v hP15 12 (by decide)) ?_
    refine us_iconstC hR dX9_operand_184 (c := 1) (by decide) ?_
    refine us_iadd hR dX9_operand_185 ?_
    refine us_putIx hE hP15 12 (by decide) hR dX9_operand_186 fR_10_47 (Or.inl rfl) (ev_k5 hE) rfl rfl (fun I16 s16 hs16 hP16 hF16 => ?_)
    rw [← hs16, bS_eq] at ho
    have hF16 := hF15.tr hF16
    refine us_vret hR dX9_operand_189 rfl ?_
    cases ho
    exact h2 _ hP16 hF16
def f_10008_J90  (k10 : Int32 → Int32 → Sx → Option Sx) (l1 : Int32) (l2 : Int32) (l3 : Int32) (l4 : Int32) (l5 : Int32) (s : Sx) : Option Sx :=
  if l5 = 0 then
    bS (sB s 23 (xadd (ev_cap 23) (s.1 23) 0)) fun s3 =>
    k10 l1 (l2 + (-1)) s3
  else
    bS (sB s 23 (xadd (ev_cap 23) (s.1 23) 1)) fun s2 =>
    k10 l1 (l2 + (-1)) s2
def f_10008_L10  : Nat → Int32 → Int32 → Sx → Option Sx
  | 0, _, _, _ => none
  | n + 1, l1, l2, s =>
    if l2 < 0 then
      some s
    else
      if (f_7002 s) = 0 then
        some s
      else
        if (f_9003 (xg (s.1 0) (xg (s.1 24) l2)) s) = 0 then
          some s
        else
          if l1 ≤ (f_9003 (xg (s.1 0) (xg (s.1 24) l2)) s) then
            bT (sB s 24 (s.1 24).dropLast, xlast (s.1 24)) fun s12 r12 =>
            bT (sB s12 23 (s12.1 23).dropLast, xlast (s12.1 23)) fun s13 r13 =>
            if (xg (s.1 0) (xg (s.1 24) l2)) = 23 then
              f_10008_J90 (f_10008_L10 n) l1 l2 (xg (s.1 0) (xg (s.1 24) l2)) (f_9003 (xg (s.1 0) (xg (s.1 24) l2)) s) r13 s13
            else
              if (xg (s.1 0) (xg (s.1 24) l2)) = 24 then
                f_10008_J90 (f_10008_L10 n) l1 l2 (xg (s.1 0) (xg (s.1 24) l2)) (f_9003 (xg (s.1 0) (xg (s.1 24) l2)) s) r13 s13
              else
                if (f_9003 (xg (s.1 0) (xg (s.1 24) l2)) s) = 7 then
                  bT (f_7017 (xg (s.1 0) (xg (s.1 24) l2)) r13 s13) fun s20 r20 =>
                  bS (sB s20 23 (xadd (ev_cap 23) (s20.1 23) r20)) fun s21 =>
                  f_10008_L10 n l1 (l2 + (-1)) s21
                else
                  bT (sB s13 23 (s13.1 23).dropLast, xlast (s13.1 23)) fun s17 r17 =>
                  bT (f_7018 (xg (s.1 0) (xg (s.1 24) l2)) r17 r13 s17) fun s18 r18 =>
                  bS (sB s18 23 (xadd (ev_cap 23) (s18.1 23) r18)) fun s19 =>
                  f_10008_L10 n l1 (l2 + (-1)) s19
          else
            some s
def f_10008 (x0 : Int32) (s : Sx) : Option Sx :=
  f_10008_L10 2000 x0 ((nI (s.1 24).length) - 1) s
theorem sp_10008 {d : Nat} {G : ab_G} {ad : Nat → Nat} {I : Nat → Nat → Int32} {s : Sx} {P : ab_Pq} {X : ab_Xq} (hE : EV G ad) (hL : LW G ad) (hP : Rep I ad s) {x0 : Int32}  {o : Sx} (ho : f_10008 x0 s = some o) (h : ∀ I1, Rep I1 ad o → FrE ad I I1 → P (gW G I1) none) : ab_Gam (d + 4) 10008 [.ref (ad 5), .int x0] (gW G I) P X := by
  have h2 := h
  have hF : FrE ad I I := FrE_rfl
  unfold f_10008 at ho
  refine ab_enter (I := i10008) rfl (Nat.le_of_ble_eq_true rfl) (fun R hR => ?_)
  have h10008_L10 : ∀ (n : Nat) (l1 : Int32) (l2 : Int32) (w3 : Option Value) (w4 : Option Value) (w5 : Option Value) (s : Sx) (Ia : Nat → Nat → Int32) (bc bs : Nat) (hPa : Rep Ia ad s) (hFa : FrE ad I Ia) (ho : f_10008_L10 n l1 l2 s = some o), R 10 [some (.ref (ad 5)), some (.int l1), some (.int l2), w3, w4, w5] [] (gW G Ia) bc bs := by
    intro n
    induction n with
    | zero => intro l1 l2 w3 w4 w5 s Ia bc bs  hPa hFa ho; exact absurd ho (by intro hc; cases hc)
    | succ n10 ih10 =>
      have h10008_J90 : ∀ (l1 : Int32) (l2 : Int32) (l3 : Int32) (l4 : Int32) (l5 : Int32)  (s : Sx) (Ia : Nat → Nat → Int32) (bc bs : Nat) (hPa : Rep Ia ad s) (hFa : FrE ad I Ia) (ho : f_10008_J90 (f_10008_L10 n10) l1 l2 l3 l4 l5 s = some o), R 90 [some (.ref (ad 5)), some (.int l1), some (.int l2), some (.int l3), some (.int l4), some (.int l5)] [] (gW G Ia) bc bs := by
        intro l1 l2 l3 l4 l5  s Ia bc bs  hPa hFa ho
        unfold f_10008_J90 at ho
        refine us_aload_n hR dX9_doWaitingMarks_90 rfl ?_
        refine us_getR hR dX9_doWaitingMarks_91 fR_10_14 (ev_k5 hE) rfl (ev_r_5_0 hE) ?_
        refine us_iload hR dX9_doWaitingMarks_94 rfl ?_
        refine us_if_ne hR dX9_doWaitingMarks_96 103 (by decide) (fun c1 => ?_) (fun c1 => ?_)
        · rw [if_neg c1] at ho
          refine us_iconstC hR dX9_doWaitingMarks_103 (c := 1) (by decide) ?_
          refine us_callV hR dX9_doWaitingMarks_104 (y := 6004) (by decide +kernel) (by decide) (J := i6004) rfl rfl rfl rfl (ev_rk hE (by decide)) rfl (Nat.le_of_ble_eq_true rfl) (Nat.zero_le _) (Nat.zero_le _) ?_
          refine cR_add hE hPa 23 (by decide) (fun I2 s2 hs2 hP2 hF2 => ?_)
          rw [← hs2, bS_eq] at ho
          have hF2 := hFa.tr hF2
          refine us_goto hR dX9_doWaitingMarks_107 161 (by decide) ?_
          refine us_iincC hR dX9_doWaitingMarks_161 rfl (Nat.le_of_ble_eq_true rfl) (c := (-1)) (by decide) ?_
          refine us_goto hR dX9_doWaitingMarks_164 10 (by decide) ?_
          exact ih10 l1 (l2 + (-1)) _ _ _ s2 I2 _ _ hP2 hF2 ho
        · rw [if_pos c1] at ho
          refine us_iconstC hR dX9_doWaitingMarks_99 (c := 0) (by decide) ?_
          refine us_goto hR dX9_doWaitingMarks_100 104 (by decide) ?_
          refine us_callV hR dX9_doWaitingMarks_104 (y := 6004) (by decide +kernel) (by decide) (J := i6004) rfl rfl rfl rfl (ev_rk hE (by decide)) rfl (Nat.le_of_ble_eq_true rfl) (Nat.zero_le _) (Nat.zero_le _) ?_
          refine cR_add hE hPa 23 (by decide) (fun I3 s3 hs3 hP3 hF3 => ?_)
          rw [← hs3, bS_eq] at ho
          have hF3 := hFa.tr hF3
          refine us_goto hR dX9_doWaitingMarks_107 161 (by decide) ?_
          refine us_iincC hR dX9_doWaitingMarks_161 rfl (Nat.le_of_ble_eq_true rfl) (c := (-1)) (by decide) ?_
          refine us_goto hR dX9_doWaitingMarks_164 10 (by decide) ?_
          exact ih10 l1 (l2 + (-1)) _ _ _ s3 I3 _ _ hP3 hF3 ho
      intro l1 l2 w3 w4 w5 s Ia bc bs  hPa hFa ho
      rw [f_10008_L10] at ho
      refine us_iload_n hR dX9_doWaitingMarks_10 rfl ?_
      refine us_if_lt hR dX9_doWaitingMarks_11 167 (by decide) (fun c4 => ?_) (fun c4 => ?_)
      · rw [if_pos c4] at ho
        refine us_vret hR dX9_doWaitingMarks_167 rfl ?_
        cases ho
        exact h2 _ hPa hFa
      · rw [if_neg c4] at ho
        refine us_aload_n hR dX9_doWaitingMarks_14 rfl ?_
        refine us_getR hR dX9_doWaitingMarks_15 fR_10_34 (ev_k5 hE) rfl hL.2.2 ?_
        refine us_callV hR dX9_doWaitingMarks_18 (y := 7002) (by decide +kernel) (by decide) (J := i7002) rfl rfl rfl rfl (ev_k3 hE) rfl (Nat.le_of_ble_eq_true rfl) (Nat.zero_le _) (Nat.zero_le _) ?_
        refine sp_7002 hE hPa  (fun hb5 => ?_)
        refine us_if_eq hR dX9_doWaitingMarks_21 167 (by decide) (fun c6 => ?_) (fun c6 => ?_)
        · rw [if_pos c6] at ho
          refine us_vret hR dX9_doWaitingMarks_167 rfl ?_
          cases ho
          exact h2 _ hPa hFa
        · rw [if_neg c6] at ho
          refine us_aload_n hR dX9_doWaitingMarks_24 rfl ?_
          refine us_getR hR dX9_doWaitingMarks_25 fR_10_33 (ev_k5 hE) rfl hL.2.1 ?_
          refine us_getR hR dX9_doWaitingMarks_28 fR_10_68 (ev_k1 hE) rfl (ev_r_1_0 hE) ?_
          refine us_aload_n hR dX9_doWaitingMarks_31 rfl ?_
          refine us_getR hR dX9_doWaitingMarks_32 fR_10_20 (ev_k5 hE) rfl (ev_r_5_1 hE) ?_
          refine us_iload_n hR dX9_doWaitingMarks_35 rfl ?_
          refine us_callV hR dX9_doWaitingMarks_36 (y := 6002) (by decide +kernel) (by decide) (J := i6002) rfl rfl rfl rfl (ev_rk hE (by decide)) rfl (Nat.le_of_ble_eq_true rfl) (Nat.zero_le _) (Nat.zero_le _) ?_
          refine cR_get hE hPa 24 (by decide) ?_
          refine us_callV hR dX9_doWaitingMarks_39 (y := 6002) (by decide +kernel) (by decide) (J := i6002) rfl rfl rfl rfl (ev_rk hE (by decide)) rfl (Nat.le_of_ble_eq_true rfl) (Nat.zero_le _) (Nat.zero_le _) ?_
          refine cR_get hE hPa 0 (by decide) ?_
          refine us_istore_n hR dX9_doWaitingMarks_42 (Nat.le_of_ble_eq_true rfl) ?_
          refine us_iload_n hR dX9_doWaitingMarks_43 rfl ?_
          refine us_callS hR dX9_doWaitingMarks_44 (y := 9003) (by decide +kernel) (by decide) (J := i9003) rfl rfl rfl rfl (rest := _) (Nat.le_of_ble_eq_true rfl) (Nat.zero_le _) (Nat.zero_le _) ?_
          refine sp_9003 hE hPa  ?_
          refine us_istore hR dX9_doWaitingMarks_47 (Nat.le_of_ble_eq_true rfl) ?_
          refine us_iload hR dX9_doWaitingMarks_49 rfl ?_
          refine us_if_eq hR dX9_doWaitingMarks_51 60 (by decide) (fun c10 => ?_) (fun c10 => ?_)
          · rw [if_pos c10] at ho
            refine us_vret hR dX9_doWaitingMarks_60 rfl ?_
            cases ho
            exact h2 _ hPa hFa
          · rw [if_neg c10] at ho
            refine us_iload hR dX9_doWaitingMarks_54 rfl ?_
            refine us_iload_n hR dX9_doWaitingMarks_56 rfl ?_
            refine us_icmp_ge hR dX9_doWaitingMarks_57 61 (by decide) (fun c11 => ?_) (fun c11 => ?_)
            · rw [if_pos c11] at ho
              refine us_aload_n hR dX9_doWaitingMarks_61 rfl ?_
              refine us_getR hR dX9_doWaitingMarks_62 fR_10_20 (ev_k5 hE) rfl (ev_r_5_1 hE) ?_
              refine us_callV hR dX9_doWaitingMarks_65 (y := 6006) (by decide +kernel) (by decide) (J := i6006) rfl rfl rfl rfl (ev_rk hE (by decide)) rfl (Nat.le_of_ble_eq_true rfl) (Nat.zero_le _) (Nat.zero_le _) ?_
              refine cR_takeLast hE hPa 24 (by decide) (fun I12 q12 hs12 hP12 hF12 => ?_)
              rw [← hs12] at ho
              obtain ⟨s12, r12⟩ := q12
              rw [bT_eq] at ho
              have hF12 := hFa.tr hF12
              refine us_pop hR dX9_doWaitingMarks_68 rfl ?_
              refine us_aload_n hR dX9_doWaitingMarks_69 rfl ?_
              refine us_getR hR dX9_doWaitingMarks_70 fR_10_14 (ev_k5 hE) rfl (ev_r_5_0 hE) ?_
              refine us_callV hR dX9_doWaitingMarks_73 (y := 6006) (by decide +kernel) (by decide) (J := i6006) rfl rfl rfl rfl (ev_rk hE (by decide)) rfl (Nat.le_of_ble_eq_true rfl) (Nat.zero_le _) (Nat.zero_le _) ?_
              refine cR_takeLast hE hP12 23 (by decide) (fun I13 q13 hs13 hP13 hF13 => ?_)
              rw [← hs13] at ho
              obtain ⟨s13, r13⟩ := q13
              rw [bT_eq] at ho
              have hF13 := hF12.tr hF13
              refine us_istore hR dX9_doWaitingMarks_76 (Nat.le_of_ble_eq_true rfl) ?_
              refine us_iload_n hR dX9_doWaitingMarks_78 rfl ?_
              refine us_bipushC hR dX9_doWaitingMarks_79 (c := 23) (by decide) ?_
              refine us_icmp_eq hR dX9_doWaitingMarks_81 90 (by decide) (fun c14 => ?_) (fun c14 => ?_)
              · rw [if_pos c14] at ho
                exact h10008_J90 l1 l2 (xg (s.1 0) (xg (s.1 24) l2)) (f_9003 (xg (s.1 0) (xg (s.1 24) l2)) s) r13  s13 I13 _ _ hP13 hF13 ho
              · rw [if_neg c14] at ho
                refine us_iload_n hR dX9_doWaitingMarks_84 rfl ?_
                refine us_bipushC hR dX9_doWaitingMarks_85 (c := 24) (by decide) ?_
                refine us_icmp_ne hR dX9_doWaitingMarks_87 110 (by decide) (fun c15 => ?_) (fun c15 => ?_)
                · rw [if_neg c15] at ho
                  refine us_iload hR dX9_doWaitingMarks_110 rfl ?_
                  refine us_bipushC hR dX9_doWaitingMarks_112 (c := 7) (by decide) ?_
                  refine us_icmp_ne hR dX9_doWaitingMarks_114 137 (by decide) (fun c16 => ?_) (fun c16 => ?_)
                  · rw [if_neg c16] at ho
                    refine us_aload_n hR dX9_doWaitingMarks_137 rfl ?_
                    refine us_getR hR dX9_doWaitingMarks_138 fR_10_14 (ev_k5 hE) rfl (ev_r_5_0 hE) ?_
                    refine us_aload_n hR dX9_doWaitingMarks_141 rfl ?_
                    refine us_getR hR dX9_doWaitingMarks_142 fR_10_34 (ev_k5 hE) rfl hL.2.2 ?_
                    refine us_iload_n hR dX9_doWaitingMarks_145 rfl ?_
                    refine us_aload_n hR dX9_doWaitingMarks_146 rfl ?_
                    refine us_getR hR dX9_doWaitingMarks_147 fR_10_14 (ev_k5 hE) rfl (ev_r_5_0 hE) ?_
                    refine us_callV hR dX9_doWaitingMarks_150 (y := 6006) (by decide +kernel) (by decide) (J := i6006) rfl rfl rfl rfl (ev_rk hE (by decide)) rfl (Nat.le_of_ble_eq_true rfl) (Nat.zero_le _) (Nat.zero_le _) ?_
                    refine cR_takeLast hE hP13 23 (by decide) (fun I17 q17 hs17 hP17 hF17 => ?_)
                    rw [← hs17] at ho
                    obtain ⟨s17, r17⟩ := q17
                    rw [bT_eq] at ho
                    have hF17 := hF13.tr hF17
                    refine us_iload hR dX9_doWaitingMarks_153 rfl ?_
                    refine us_callV hR dX9_doWaitingMarks_155 (y := 7018) (by decide +kernel) (by decide) (J := i7018) rfl rfl rfl rfl (ev_k3 hE) rfl (Nat.le_of_ble_eq_true rfl) (Nat.zero_le _) (Nat.zero_le _) ?_
                    refine sp_7018 hE hP17  (fun I18 q18 hs18 hP18 hF18 => ?_)
                    rw [← hs18] at ho
                    obtain ⟨s18, r18⟩ := q18
                    rw [bT_eq] at ho
                    have hF18 := hF17.tr hF18
                    refine us_callV hR dX9_doWaitingMarks_158 (y := 6004) (by decide +kernel) (by decide) (J := i6004) rfl rfl rfl rfl (ev_rk hE (by decide)) rfl (Nat.le_of_ble_eq_true rfl) (Nat.zero_le _) (Nat.zero_le _) ?_
                    refine cR_add hE hP18 23 (by decide) (fun I19 s19 hs19 hP19 hF19 => ?_)
                    rw [← hs19, bS_eq] at ho
                    have hF19 := hF18.tr hF19
                    refine us_iincC hR dX9_doWaitingMarks_161 rfl (Nat.le_of_ble_eq_true rfl) (c := (-1)) (by decide) ?_
                    refine us_goto hR dX9_doWaitingMarks_164 10 (by decide) ?_
                    exact ih10 l1 (l2 + (-1)) _ _ _ s19 I19 _ _ hP19 hF19 ho
                  · rw [if_pos c16] at ho
                    refine us_aload_n hR dX9_doWaitingMarks_117 rfl ?_
                    refine us_getR hR dX9_doWaitingMarks_118 fR_10_14 (ev_k5 hE) rfl (ev_r_5_0 hE) ?_
                    refine us_aload_n hR dX9_doWaitingMarks_121 rfl ?_
                    refine us_getR hR dX9_doWaitingMarks_122 fR_10_34 (ev_k5 hE) rfl hL.2.2 ?_
                    refine us_iload_n hR dX9_doWaitingMarks_125 rfl ?_
                    refine us_iload hR dX9_doWaitingMarks_126 rfl ?_
                    refine us_callV hR dX9_doWaitingMarks_128 (y := 7017) (by decide +kernel) (by decide) (J := i7017) rfl rfl rfl rfl (ev_k3 hE) rfl (Nat.le_of_ble_eq_true rfl) (Nat.zero_le _) (Nat.zero_le _) ?_
                    refine sp_7017 hE hP13  (fun I20 q20 hs20 hP20 hF20 => ?_)
                    rw [← hs20] at ho
                    obtain ⟨s20, r20⟩ := q20
                    rw [bT_eq] at ho
                    have hF20 := hF13.tr hF20
                    refine us_callV hR dX9_doWaitingMarks_131 (y := 6004) (by decide +kernel) (by decide) (J := i6004) rfl rfl rfl rfl (ev_rk hE (by decide)) rfl (Nat.le_of_ble_eq_true rfl) (Nat.zero_le _) (Nat.zero_le _) ?_
                    refine cR_add hE hP20 23 (by decide) (fun I21 s21 hs21 hP21 hF21 => ?_)
                    rw [← hs21, bS_eq] at ho
                    have hF21 := hF20.tr hF21
                    refine us_goto hR dX9_doWaitingMarks_134 161 (by decide) ?_
                    refine us_iincC hR dX9_doWaitingMarks_161 rfl (Nat.le_of_ble_eq_true rfl) (c := (-1)) (by decide) ?_
                    refine us_goto hR dX9_doWaitingMarks_164 10 (by decide) ?_
                    exact ih10 l1 (l2 + (-1)) _ _ _ s21 I21 _ _ hP21 hF21 ho
                · rw [if_pos c15] at ho
                  exact h10008_J90 l1 l2 (xg (s.1 0) (xg (s.1 24) l2)) (f_9003 (xg (s.1 0) (xg (s.1 24) l2)) s) r13  s13 I13 _ _ hP13 hF13 ho
            · rw [if_neg c11] at ho
              refine us_vret hR dX9_doWaitingMarks_60 rfl ?_
              cases ho
              exact h2 _ hPa hFa
  refine us_aload_n hR dX9_doWaitingMarks_0 rfl ?_
  refine us_getR hR dX9_doWaitingMarks_1 fR_10_20 (ev_k5 hE) rfl (ev_r_5_1 hE) ?_
  refine us_callV hR dX9_doWaitingMarks_4 (y := 6001) (by decide +kernel) (by decide) (J := i6001) rfl rfl rfl rfl (ev_rk hE (by decide)) rfl (Nat.le_of_ble_eq_true rfl) (Nat.zero_le _) (Nat.zero_le _) ?_
  refine cR_size hE hP 24 (by decide) ?_
  refine us_iconstC hR dX9_doWaitingMarks_7 (c := 1) (by decide) ?_
  refine us_isub hR dX9_doWaitingMarks_8 ?_
  refine us_istore_n hR dX9_doWaitingMarks_9 (Nat.le_of_ble_eq_true rfl) ?_
  exact h10008_L10 _ x0 ((nI (s.1 24).length) - 1) _ _ _ s I _ _ hP hF ho
def f_10009_J45  (l1 : Int32) (l2 : Int32) (k0 : Int32) (s : Sx) : Sx :=
  bS (sB s 23 (xadd (ev_cap 23) (s.1 23) k0)) fun s1 =>
  bS (sV s1 12 (xg (s1.1 1) (s1.2 12))) fun s3 =>
  s3
def f_10009_J26  (l1 : Int32) (k0 : Int32) (s : Sx) : Sx :=
  if k0 = l1 then
    if k0 = 0 then
      f_10009_J45 l1 k0 0 s
    else
      f_10009_J45 l1 k0 1 s
  else
    bS (sB s 24 (xadd (ev_cap 24) (s.1 24) (s.2 12))) fun s5 =>
    bS (sV s5 12 ((s5.2 12) + 1)) fun s6 =>
    bS (sV s6 13 1) fun s7 =>
    s7
def f_10009 (x0 : Int32) (s : Sx) : Sx :=
  bT (f_7009 s) fun s9 r9 =>
  if r9 = 0 then
    s9
  else
    bT (sB s9 23 (s9.1 23).dropLast, xlast (s9.1 23)) fun s11 r11 =>
    if r11 = 0 then
      f_10009_J26 x0 0 s11
    else
      f_10009_J26 x0 1 s11
theorem sp_10009 {d : Nat} {G : ab_G} {ad : Nat → Nat} {I : Nat → Nat → Int32} {s : Sx} {P : ab_Pq} {X : ab_Xq} (hE : EV G ad) (hL : LW G ad) (hP : Rep I ad s) {x0 : Int32}  (h : ∀ I1 o, o = f_10009 x0 s → Rep I1 ad o → FrE ad I I1 → P (gW G I1) none) : ab_Gam (d + 3) 10009 [.ref (ad 5), .int x0] (gW G I) P X := by
  obtain ⟨o, ho⟩ : ∃ o, o = f_10009 x0 s := ⟨_, rfl⟩
  have h2 := fun I1 => h I1 o ho
  have hF : FrE ad I I := FrE_rfl
  unfold f_10009 at ho
  refine ab_enter (I := i10009) rfl (Nat.le_of_ble_eq_true rfl) (fun R hR => ?_)
  have h10009_J45 : ∀ (l1 : Int32) (l2 : Int32) (k0 : Int32)  (s : Sx) (Ia : Nat → Nat → Int32) (bc bs : Nat) (hPa : Rep Ia ad s) (hFa : FrE ad I Ia) (ho : o = f_10009_J45 l1 l2 k0 s), R 45 [some (.ref (ad 5)), some (.int l1), some (.int l2)] [.int k0, .ref (ad (6 + 23))] (gW G Ia) bc bs := by
    intro l1 l2 k0  s Ia bc bs  hPa hFa ho
    unfold f_10009_J45 at ho
    refine us_callV hR dX9_decide_45 (y := 6004) (by decide +kernel) (by decide) (J := i6004) rfl rfl rfl rfl (ev_rk hE (by decide)) rfl (Nat.le_of_ble_eq_true rfl) (Nat.zero_le _) (Nat.zero_le _) ?_
    refine cR_add hE hPa 23 (by decide) (fun I1 s1 hs1 hP1 hF1 => ?_)
    rw [← hs1, bS_eq] at ho
    have hF1 := hFa.tr hF1
    refine us_aload_n hR dX9_decide_48 rfl ?_
    refine us_aload_n hR dX9_decide_49 rfl ?_
    refine us_getR hR dX9_decide_50 fR_10_33 (ev_k5 hE) rfl hL.2.1 ?_
    refine us_getR hR dX9_decide_53 fR_10_83 (ev_k1 hE) rfl (ev_r_1_1 hE) ?_
    refine us_aload_n hR dX9_decide_56 rfl ?_
    refine us_getIx hR dX9_decide_57 fR_10_47 (ev_k5 hE) rfl (Rep_v hP1 12 (by decide)) ?_
    refine us_callV hR dX9_decide_60 (y := 6002) (by decide +kernel) (by decide) (J := i6002) rfl rfl rfl rfl (ev_rk hE (by decide)) rfl (Nat.le_of_ble_eq_true rfl) (Nat.zero_le _) (Nat.zero_le _) ?_
    refine cR_get hE hP1 1 (by decide) ?_
    refine us_putIx hE hP1 12 (by decide) hR dX9_decide_63 fR_10_47 (Or.inl rfl) (ev_k5 hE) rfl rfl (fun I3 s3 hs3 hP3 hF3 => ?_)
    rw [← hs3, bS_eq] at ho
    have hF3 := hF1.tr hF3
    refine us_goto hR dX9_decide_66 95 (by decide) ?_
    refine us_vret hR dX9_decide_95 rfl ?_
    subst ho
    exact h2 _ hP3 hF3
  have h10009_J26 : ∀ (l1 : Int32) (k0 : Int32)  (s : Sx) (Ia : Nat → Nat → Int32) (bc bs : Nat) (hPa : Rep Ia ad s) (hFa : FrE ad I Ia) (ho : o = f_10009_J26 l1 k0 s), R 26 [some (.ref (ad 5)), some (.int l1), none] [.int k0] (gW G Ia) bc bs := by
    intro l1 k0  s Ia bc bs  hPa hFa ho
    unfold f_10009_J26 at ho
    refine us_istore_n hR dX9_decide_26 (Nat.le_of_ble_eq_true rfl) ?_
    refine us_iload_n hR dX9_decide_27 rfl ?_
    refine us_iload_n hR dX9_decide_28 rfl ?_
    refine us_icmp_ne hR dX9_decide_29 69 (by decide) (fun c4 => ?_) (fun c4 => ?_)
    · rw [if_neg c4] at ho
      refine us_aload_n hR dX9_decide_69 rfl ?_
      refine us_getR hR dX9_decide_70 fR_10_20 (ev_k5 hE) rfl (ev_r_5_1 hE) ?_
      refine us_aload_n hR dX9_decide_73 rfl ?_
      refine us_getIx hR dX9_decide_74 fR_10_47 (ev_k5 hE) rfl (Rep_v hPa 12 (by decide)) ?_
      refine us_callV hR dX9_decide_77 (y := 6004) (by decide +kernel) (by decide) (J := i6004) rfl rfl rfl rfl (ev_rk hE (by decide)) rfl (Nat.le_of_ble_eq_true rfl) (Nat.zero_le _) (Nat.zero_le _) ?_
      refine cR_add hE hPa 24 (by decide) (fun I5 s5 hs5 hP5 hF5 => ?_)
      rw [← hs5, bS_eq] at ho
      have hF5 := hFa.tr hF5
      refine us_aload_n hR dX9_decide_80 rfl ?_
      refine us_dup hR dX9_decide_81 rfl ?_
      refine us_getIx hR dX9_decide_82 fR_10_47 (ev_k5 hE) rfl (Rep_v hP5 12 (by decide)) ?_
      refine us_iconstC hR dX9_decide_85 (c := 1) (by decide) ?_
      refine us_iadd hR dX9_decide_86 ?_
      refine us_putIx hE hP5 12 (by decide) hR dX9_decide_87 fR_10_47 (Or.inl rfl) (ev_k5 hE) rfl rfl (fun I6 s6 hs6 hP6 hF6 => ?_)
      rw [← hs6, bS_eq] at ho
      have hF6 := hF5.tr hF6
      refine us_aload_n hR dX9_decide_90 rfl ?_
      refine us_iconstC hR dX9_decide_91 (c := 1) (by decide) ?_
      refine us_putIx hE hP6 13 (by decide) hR dX9_decide_92 fR_10_51 (Or.inl rfl) (ev_k5 hE) rfl rfl (fun I7 s7 hs7 hP7 hF7 => ?_)
      rw [← hs7, bS_eq] at ho
      have hF7 := hF6.tr hF7
      refine us_vret hR dX9_decide_95 rfl ?_
      subst ho
      exact h2 _ hP7 hF7
    · rw [if_pos c4] at ho
      refine us_aload_n hR dX9_decide_32 rfl ?_
      refine us_getR hR dX9_decide_33 fR_10_14 (ev_k5 hE) rfl (ev_r_5_0 hE) ?_
      refine us_iload_n hR dX9_decide_36 rfl ?_
      refine us_if_eq hR dX9_decide_37 44 (by decide) (fun c8 => ?_) (fun c8 => ?_)
      · rw [if_pos c8] at ho
        refine us_iconstC hR dX9_decide_44 (c := 0) (by decide) ?_
        exact h10009_J45 l1 k0 0  s Ia _ _ hPa hFa ho
      · rw [if_neg c8] at ho
        refine us_iconstC hR dX9_decide_40 (c := 1) (by decide) ?_
        refine us_goto hR dX9_decide_41 45 (by decide) ?_
        exact h10009_J45 l1 k0 1  s Ia _ _ hPa hFa ho
  refine us_aload_n hR dX9_decide_0 rfl ?_
  refine us_getR hR dX9_decide_1 fR_10_34 (ev_k5 hE) rfl hL.2.2 ?_
  refine us_callV hR dX9_decide_4 (y := 7009) (by decide +kernel) (by decide) (J := i7009) rfl rfl rfl rfl (ev_k3 hE) rfl (Nat.le_of_ble_eq_true rfl) (Nat.zero_le _) (Nat.zero_le _) ?_
  refine sp_7009 hE hP  (fun I9 q9 hs9 hb9 hP9 hF9 => ?_)
  rw [← hs9] at ho
  obtain ⟨s9, r9⟩ := q9
  rw [bT_eq] at ho
  have hF9 := hF.tr hF9
  refine us_if_ne hR dX9_decide_7 11 (by decide) (fun c10 => ?_) (fun c10 => ?_)
  · rw [if_neg c10] at ho
    refine us_aload_n hR dX9_decide_11 rfl ?_
    refine us_getR hR dX9_decide_12 fR_10_14 (ev_k5 hE) rfl (ev_r_5_0 hE) ?_
    refine us_callV hR dX9_decide_15 (y := 6006) (by decide +kernel) (by decide) (J := i6006) rfl rfl rfl rfl (ev_rk hE (by decide)) rfl (Nat.le_of_ble_eq_true rfl) (Nat.zero_le _) (Nat.zero_le _) ?_
    refine cR_takeLast hE hP9 23 (by decide) (fun I11 q11 hs11 hP11 hF11 => ?_)
    rw [← hs11] at ho
    obtain ⟨s11, r11⟩ := q11
    rw [bT_eq] at ho
    have hF11 := hF9.tr hF11
    refine us_if_eq hR dX9_decide_18 25 (by decide) (fun c12 => ?_) (fun c12 => ?_)
    · rw [if_pos c12] at ho
      refine us_iconstC hR dX9_decide_25 (c := 0) (by decide) ?_
      exact h10009_J26 x0 0  s11 I11 _ _ hP11 hF11 ho
    · rw [if_neg c12] at ho
      refine us_iconstC hR dX9_decide_21 (c := 1) (by decide) ?_
      refine us_goto hR dX9_decide_22 26 (by decide) ?_
      exact h10009_J26 x0 1  s11 I11 _ _ hP11 hF11 ho
  · rw [if_pos c10] at ho
    refine us_vret hR dX9_decide_10 rfl ?_
    subst ho
    exact h2 _ hP9 hF9
def f_10011 (x0 : Int32) (x1 : Int32) (s : Sx) : Sx :=
  if (xg (s.1 0) x0) = 5 then
    if x1 = 0 then
      bS (sV s 12 (f_10012 s)) fun s5 =>
      s5
    else
      bS (sV s 12 ((s.2 12) + 1)) fun s6 =>
      s6
  else if (xg (s.1 0) x0) = 7 then
    if x1 = 0 then
      bS (sV s 12 (xg (s.1 1) (s.2 12))) fun s9 =>
      s9
    else
      bS (sV s 12 ((s.2 12) + 1)) fun s10 =>
      s10
  else if (xg (s.1 0) x0) = 8 then
    bS (f_7011 x1 s) fun s11 =>
    bS (sV s11 12 ((s11.2 12) + 1)) fun s12 =>
    s12
  else if (xg (s.1 0) x0) = 11 then
    bS (sB s 23 (xadd (ev_cap 23) (s.1 23) x1)) fun s13 =>
    bS (f_10014 s13) fun s14 =>
    s14
  else if (xg (s.1 0) x0) = 34 then
    bS (f_7014 (xg (s.1 1) x0) x1 s) fun s16 =>
    bS (sV s16 12 ((s16.2 12) + 1)) fun s17 =>
    s17
  else if (xg (s.1 0) x0) = 37 then
    bT (sB s 23 (s.1 23).dropLast, xlast (s.1 23)) fun s18 r18 =>
    bS (f_7012 r18 x1 s18) fun s19 =>
    bS (sV s19 12 ((s19.2 12) + 1)) fun s20 =>
    s20
  else
    bS (sV s 12 ((s.2 12) + 1)) fun s21 =>
    s21
theorem sp_10011 {d : Nat} {G : ab_G} {ad : Nat → Nat} {I : Nat → Nat → Int32} {s : Sx} {P : ab_Pq} {X : ab_Xq} (hE : EV G ad) (hL : LW G ad) (hP : Rep I ad s) {x0 : Int32} {x1 : Int32}  (h : ∀ I1 o, o = f_10011 x0 x1 s → Rep I1 ad o → FrE ad I I1 → P (gW G I1) none) : ab_Gam (d + 4) 10011 [.ref (ad 5), .int x0, .int x1] (gW G I) P X := by
  obtain ⟨o, ho⟩ : ∃ o, o = f_10011 x0 x1 s := ⟨_, rfl⟩
  have h2 := fun I1 => h I1 o ho
  have hF : FrE ad I I := FrE_rfl
  unfold f_10011 at ho
  refine ab_enter (I := i10011) rfl (Nat.le_of_ble_eq_true rfl) (fun R hR => ?_)
  refine us_aload_n hR dX9_endStatement_0 rfl ?_
  refine us_getR hR dX9_endStatement_1 fR_10_33 (ev_k5 hE) rfl hL.2.1 ?_
  refine us_getR hR dX9_endStatement_4 fR_10_68 (ev_k1 hE) rfl (ev_r_1_0 hE) ?_
  refine us_iload_n hR dX9_endStatement_7 rfl ?_
  refine us_callV hR dX9_endStatement_8 (y := 6002) (by decide +kernel) (by decide) (J := i6002) rfl rfl rfl rfl (ev_rk hE (by decide)) rfl (Nat.le_of_ble_eq_true rfl) (Nat.zero_le _) (Nat.zero_le _) ?_
  refine cR_get hE hP 0 (by decide) ?_
  refine us_lsw hR dX9_endStatement_11 (by decide) ⟨fun c2 => ⟨by decide, ?_⟩, fun c2_0 => ⟨fun c2 => ⟨by decide, ?_⟩, fun c2_1 => ⟨fun c2 => ⟨by decide, ?_⟩, fun c2_2 => ⟨fun c2 => ⟨by decide, ?_⟩, fun c2_3 => ⟨fun c2 => ⟨by decide, ?_⟩, fun c2_4 => ⟨fun c2 => ⟨by decide, ?_⟩, fun c2_5 => ⟨by decide, ?_⟩⟩⟩⟩⟩⟩⟩
  · rw [if_pos (i_sw (v := 5) c2)] at ho
    refine us_aload_n hR dX9_endStatement_164 rfl ?_
    refine us_iload_n hR dX9_endStatement_165 rfl ?_
    refine us_if_eq hR dX9_endStatement_166 178 (by decide) (fun c3 => ?_) (fun c3 => ?_)
    · rw [if_pos c3] at ho
      refine us_aload_n hR dX9_endStatement_178 rfl ?_
      refine us_callV hR dX9_endStatement_179 (y := 10012) (by decide +kernel) (by decide) (J := i10012) rfl rfl rfl rfl (ev_k5 hE) rfl (Nat.le_of_ble_eq_true rfl) (Nat.zero_le _) (Nat.zero_le _) ?_
      refine sp_10012 hE hL hP  ?_
      refine us_putIx hE hP 12 (by decide) hR dX9_endStatement_182 fR_10_47 (Or.inl rfl) (ev_k5 hE) rfl rfl (fun I5 s5 hs5 hP5 hF5 => ?_)
      rw [← hs5, bS_eq] at ho
      have hF5 := hF.tr hF5
      refine us_goto hR dX9_endStatement_185 232 (by decide) ?_
      refine us_vret hR dX9_endStatement_232 rfl ?_
      subst ho
      exact h2 _ hP5 hF5
    · rw [if_neg c3] at ho
      refine us_aload_n hR dX9_endStatement_169 rfl ?_
      refine us_getIx hR dX9_endStatement_170 fR_10_47 (ev_k5 hE) rfl (Rep_v hP 12 (by decide)) ?_
      refine us_iconstC hR dX9_endStatement_173 (c := 1) (by decide) ?_
      refine us_iadd hR dX9_endStatement_174 ?_
      refine us_goto hR dX9_endStatement_175 182 (by decide) ?_
      refine us_putIx hE hP 12 (by decide) hR dX9_endStatement_182 fR_10_47 (Or.inl rfl) (ev_k5 hE) rfl rfl (fun I6 s6 hs6 hP6 hF6 => ?_)
      rw [← hs6, bS_eq] at ho
      have hF6 := hF.tr hF6
      refine us_goto hR dX9_endStatement_185 232 (by decide) ?_
      refine us_vret hR dX9_endStatement_232 rfl ?_
      subst ho
      exact h2 _ hP6 hF6
  · rw [if_neg (i_sw_x (v := 7) (w := 5) c2 (by decide)), if_pos (i_sw (v := 7) c2)] at ho
    refine us_aload_n hR dX9_endStatement_188 rfl ?_
    refine us_iload_n hR dX9_endStatement_189 rfl ?_
    refine us_if_eq hR dX9_endStatement_190 202 (by decide) (fun c7 => ?_) (fun c7 => ?_)
    · rw [if_pos c7] at ho
      refine us_aload_n hR dX9_endStatement_202 rfl ?_
      refine us_getR hR dX9_endStatement_203 fR_10_33 (ev_k5 hE) rfl hL.2.1 ?_
      refine us_getR hR dX9_endStatement_206 fR_10_83 (ev_k1 hE) rfl (ev_r_1_1 hE) ?_
      refine us_aload_n hR dX9_endStatement_209 rfl ?_
      refine us_getIx hR dX9_endStatement_210 fR_10_47 (ev_k5 hE) rfl (Rep_v hP 12 (by decide)) ?_
      refine us_callV hR dX9_endStatement_213 (y := 6002) (by decide +kernel) (by decide) (J := i6002) rfl rfl rfl rfl (ev_rk hE (by decide)) rfl (Nat.le_of_ble_eq_true rfl) (Nat.zero_le _) (Nat.zero_le _) ?_
      refine cR_get hE hP 1 (by decide) ?_
      refine us_putIx hE hP 12 (by decide) hR dX9_endStatement_216 fR_10_47 (Or.inl rfl) (ev_k5 hE) rfl rfl (fun I9 s9 hs9 hP9 hF9 => ?_)
      rw [← hs9, bS_eq] at ho
      have hF9 := hF.tr hF9
      refine us_goto hR dX9_endStatement_219 232 (by decide) ?_
      refine us_vret hR dX9_endStatement_232 rfl ?_
      subst ho
      exact h2 _ hP9 hF9
    · rw [if_neg c7] at ho
      refine us_aload_n hR dX9_endStatement_193 rfl ?_
      refine us_getIx hR dX9_endStatement_194 fR_10_47 (ev_k5 hE) rfl (Rep_v hP 12 (by decide)) ?_
      refine us_iconstC hR dX9_endStatement_197 (c := 1) (by decide) ?_
      refine us_iadd hR dX9_endStatement_198 ?_
      refine us_goto hR dX9_endStatement_199 216 (by decide) ?_
      refine us_putIx hE hP 12 (by decide) hR dX9_endStatement_216 fR_10_47 (Or.inl rfl) (ev_k5 hE) rfl rfl (fun I10 s10 hs10 hP10 hF10 => ?_)
      rw [← hs10, bS_eq] at ho
      have hF10 := hF.tr hF10
      refine us_goto hR dX9_endStatement_219 232 (by decide) ?_
      refine us_vret hR dX9_endStatement_232 rfl ?_
      subst ho
      exact h2 _ hP10 hF10
  · rw [if_neg (i_sw_x (v := 8) (w := 5) c2 (by decide)), if_neg (i_sw_x (v := 8) (w := 7) c2 (by decide)), if_pos (i_sw (v := 8) c2)] at ho
    refine us_aload_n hR dX9_endStatement_128 rfl ?_
    refine us_getR hR dX9_endStatement_129 fR_10_34 (ev_k5 hE) rfl hL.2.2 ?_
    refine us_iload_n hR dX9_endStatement_132 rfl ?_
    refine us_callV hR dX9_endStatement_133 (y := 7011) (by decide +kernel) (by decide) (J := i7011) rfl rfl rfl rfl (ev_k3 hE) rfl (Nat.le_of_ble_eq_true rfl) (Nat.zero_le _) (Nat.zero_le _) ?_
    refine sp_7011 hE hP  (fun I11 s11 hs11 hP11 hF11 => ?_)
    rw [← hs11, bS_eq] at ho
    have hF11 := hF.tr hF11
    refine us_aload_n hR dX9_endStatement_136 rfl ?_
    refine us_dup hR dX9_endStatement_137 rfl ?_
    refine us_getIx hR dX9_endStatement_138 fR_10_47 (ev_k5 hE) rfl (Rep_v hP11 12 (by decide)) ?_
    refine us_iconstC hR dX9_endStatement_141 (c := 1) (by decide) ?_
    refine us_iadd hR dX9_endStatement_142 ?_
    refine us_putIx hE hP11 12 (by decide) hR dX9_endStatement_143 fR_10_47 (Or.inl rfl) (ev_k5 hE) rfl rfl (fun I12 s12 hs12 hP12 hF12 => ?_)
    rw [← hs12, bS_eq] at ho
    have hF12 := hF11.tr hF12
    refine us_goto hR dX9_endStatement_146 232 (by decide) ?_
    refine us_vret hR dX9_endStatement_232 rfl ?_
    subst ho
    exact h2 _ hP12 hF12
  · rw [if_neg (i_sw_x (v := 11) (w := 5) c2 (by decide)), if_neg (i_sw_x (v := 11) (w := 7) c2 (by decide)), if_neg (i_sw_x (v := 11) (w := 8) c2 (by decide)), if_pos (i_sw (v := 11) c2)] at ho
    refine us_aload_n hR dX9_endStatement_149 rfl ?_
    refine us_getR hR dX9_endStatement_150 fR_10_14 (ev_k5 hE) rfl (ev_r_5_0 hE) ?_
    refine us_iload_n hR dX9_endStatement_153 rfl ?_
    refine us_callV hR dX9_endStatement_154 (y := 6004) (by decide +kernel) (by decide) (J := i6004) rfl rfl rfl rfl (ev_rk hE (by decide)) rfl (Nat.le_of_ble_eq_true rfl) (Nat.zero_le _) (Nat.zero_le _) ?_
    refine cR_add hE hP 23 (by decide) (fun I13 s13 hs13 hP13 hF13 => ?_)
    rw [← hs13, bS_eq] at ho
    have hF13 := hF.tr hF13
    refine us_aload_n hR dX9_endStatement_157 rfl ?_
    refine us_callV hR dX9_endStatement_158 (y := 10014) (by decide +kernel) (by decide) (J := i10014) rfl rfl rfl rfl (ev_k5 hE) rfl (Nat.le_of_ble_eq_true rfl) (Nat.zero_le _) (Nat.zero_le _) ?_
    refine sp_10014 hE hL hP13  (fun I14 s14 hs14 hP14 hF14 => ?_)
    rw [← hs14, bS_eq] at ho
    have hF14 := hF13.tr hF14
    refine us_goto hR dX9_endStatement_161 232 (by decide) ?_
    refine us_vret hR dX9_endStatement_232 rfl ?_
    subst ho
    exact h2 _ hP14 hF14
  · rw [if_neg (i_sw_x (v := 34) (w := 5) c2 (by decide)), if_neg (i_sw_x (v := 34) (w := 7) c2 (by decide)), if_neg (i_sw_x (v := 34) (w := 8) c2 (by decide)), if_neg (i_sw_x (v := 34) (w := 11) c2 (by decide)), if_pos (i_sw (v := 34) c2)] at ho
    refine us_aload_n hR dX9_endStatement_68 rfl ?_
    refine us_getR hR dX9_endStatement_69 fR_10_34 (ev_k5 hE) rfl hL.2.2 ?_
    refine us_aload_n hR dX9_endStatement_72 rfl ?_
    refine us_getR hR dX9_endStatement_73 fR_10_33 (ev_k5 hE) rfl hL.2.1 ?_
    refine us_getR hR dX9_endStatement_76 fR_10_83 (ev_k1 hE) rfl (ev_r_1_1 hE) ?_
    refine us_iload_n hR dX9_endStatement_79 rfl ?_
    refine us_callV hR dX9_endStatement_80 (y := 6002) (by decide +kernel) (by decide) (J := i6002) rfl rfl rfl rfl (ev_rk hE (by decide)) rfl (Nat.le_of_ble_eq_true rfl) (Nat.zero_le _) (Nat.zero_le _) ?_
    refine cR_get hE hP 1 (by decide) ?_
    refine us_iload_n hR dX9_endStatement_83 rfl ?_
    refine us_callV hR dX9_endStatement_84 (y := 7014) (by decide +kernel) (by decide) (J := i7014) rfl rfl rfl rfl (ev_k3 hE) rfl (Nat.le_of_ble_eq_true rfl) (Nat.zero_le _) (Nat.zero_le _) ?_
    refine sp_7014 hE hP  (fun I16 s16 hs16 hP16 hF16 => ?_)
    rw [← hs16, bS_eq] at ho
    have hF16 := hF.tr hF16
    refine us_aload_n hR dX9_endStatement_87 rfl ?_
    refine us_dup hR dX9_endStatement_88 rfl ?_
    refine us_getIx hR dX9_endStatement_89 fR_10_47 (ev_k5 hE) rfl (Rep_v hP16 12 (by decide)) ?_
    refine us_iconstC hR dX9_endStatement_92 (c := 1) (by decide) ?_
    refine us_iadd hR dX9_endStatement_93 ?_
    refine us_putIx hE hP16 12 (by decide) hR dX9_endStatement_94 fR_10_47 (Or.inl rfl) (ev_k5 hE) rfl rfl (fun I17 s17 hs17 hP17 hF17 => ?_)
    rw [← hs17, bS_eq] at ho
    have hF17 := hF16.tr hF17
    refine us_goto hR dX9_endStatement_97 232 (by decide) ?_
    refine us_vret hR dX9_endStatement_232 rfl ?_
    subst ho
    exact h2 _ hP17 hF17
  · rw [if_neg (i_sw_x (v := 37) (w := 5) c2 (by decide)), if_neg (i_sw_x (v := 37) (w := 7) c2 (by decide)), if_neg (i_sw_x (v := 37) (w := 8) c2 (by decide)), if_neg (i_sw_x (v := 37) (w := 11) c2 (by decide)), if_neg (i_sw_x (v := 37) (w := 34) c2 (by decide)), if_pos (i_sw (v := 37) c2)] at ho
    refine us_aload_n hR dX9_endStatement_100 rfl ?_
    refine us_getR hR dX9_endStatement_101 fR_10_34 (ev_k5 hE) rfl hL.2.2 ?_
    refine us_aload_n hR dX9_endStatement_104 rfl ?_
    refine us_getR hR dX9_endStatement_105 fR_10_14 (ev_k5 hE) rfl (ev_r_5_0 hE) ?_
    refine us_callV hR dX9_endStatement_108 (y := 6006) (by decide +kernel) (by decide) (J := i6006) rfl rfl rfl rfl (ev_rk hE (by decide)) rfl (Nat.le_of_ble_eq_true rfl) (Nat.zero_le _) (Nat.zero_le _) ?_
    refine cR_takeLast hE hP 23 (by decide) (fun I18 q18 hs18 hP18 hF18 => ?_)
    rw [← hs18] at ho
    obtain ⟨s18, r18⟩ := q18
    rw [bT_eq] at ho
    have hF18 := hF.tr hF18
    refine us_iload_n hR dX9_endStatement_111 rfl ?_
    refine us_callV hR dX9_endStatement_112 (y := 7012) (by decide +kernel) (by decide) (J := i7012) rfl rfl rfl rfl (ev_k3 hE) rfl (Nat.le_of_ble_eq_true rfl) (Nat.zero_le _) (Nat.zero_le _) ?_
    refine sp_7012 hE hP18  (fun I19 s19 hs19 hP19 hF19 => ?_)
    rw [← hs19, bS_eq] at ho
    have hF19 := hF18.tr hF19
    refine us_aload_n hR dX9_endStatement_115 rfl ?_
    refine us_dup hR dX9_endStatement_116 rfl ?_
    refine us_getIx hR dX9_endStatement_117 fR_10_47 (ev_k5 hE) rfl (Rep_v hP19 12 (by decide)) ?_
    refine us_iconstC hR dX9_endStatement_120 (c := 1) (by decide) ?_
    refine us_iadd hR dX9_endStatement_121 ?_
    refine us_putIx hE hP19 12 (by decide) hR dX9_endStatement_122 fR_10_47 (Or.inl rfl) (ev_k5 hE) rfl rfl (fun I20 s20 hs20 hP20 hF20 => ?_)
    rw [← hs20, bS_eq] at ho
    have hF20 := hF19.tr hF20
    refine us_goto hR dX9_endStatement_125 232 (by decide) ?_
    refine us_vret hR dX9_endStatement_232 rfl ?_
    subst ho
    exact h2 _ hP20 hF20
  · rw [if_neg (i_sw_n (v := 5) c2_0), if_neg (i_sw_n (v := 7) c2_1), if_neg (i_sw_n (v := 8) c2_2), if_neg (i_sw_n (v := 11) c2_3), if_neg (i_sw_n (v := 34) c2_4), if_neg (i_sw_n (v := 37) c2_5)] at ho
    refine us_aload_n hR dX9_endStatement_222 rfl ?_
    refine us_dup hR dX9_endStatement_223 rfl ?_
    refine us_getIx hR dX9_endStatement_224 fR_10_47 (ev_k5 hE) rfl (Rep_v hP 12 (by decide)) ?_
    refine us_iconstC hR dX9_endStatement_227 (c := 1) (by decide) ?_
    refine us_iadd hR dX9_endStatement_228 ?_
    refine us_putIx hE hP 12 (by decide) hR dX9_endStatement_229 fR_10_47 (Or.inl rfl) (ev_k5 hE) rfl rfl (fun I21 s21 hs21 hP21 hF21 => ?_)
    rw [← hs21, bS_eq] at ho
    have hF21 := hF.tr hF21
    refine us_vret hR dX9_endStatement_232 rfl ?_
    subst ho
    exact h2 _ hP21 hF21
def f_10010_J20  (l1 : Int32) (l2 : Int32) (s : Sx) : Option Sx :=
  bS (sV s 12 ((s.2 12) + 1)) fun s1 =>
  bS (sV s1 13 1) fun s2 =>
  some s2
def f_10010 (x0 : Int32) (s : Sx) : Option Sx :=
  if x0 = 32 then
    f_10010_J20 x0 (xlast (s.1 24)) s
  else
    if x0 = 27 then
      f_10010_J20 x0 (xlast (s.1 24)) s
    else
      if (xg (s.1 0) (xlast (s.1 24))) = 38 then
        bOv (f_10013 s) fun s15 =>
        some s15
      else
        bT (sB s 24 (s.1 24).dropLast, xlast (s.1 24)) fun s8 r8 =>
        if (xg (s8.1 0) (xlast (s.1 24))) = 28 then
          bS (sV s8 12 ((s8.2 12) + 1)) fun s14 =>
          some s14
        else
          bS (sV s8 13 0) fun s11 =>
          bT (sB s11 23 (s11.1 23).dropLast, xlast (s11.1 23)) fun s12 r12 =>
          bS (f_10011 (xlast (s.1 24)) r12 s12) fun s13 =>
          some s13
theorem sp_10010 {d : Nat} {G : ab_G} {ad : Nat → Nat} {I : Nat → Nat → Int32} {s : Sx} {P : ab_Pq} {X : ab_Xq} (hE : EV G ad) (hL : LW G ad) (hP : Rep I ad s) {x0 : Int32}  {o : Sx} (ho : f_10010 x0 s = some o) (h : ∀ I1, Rep I1 ad o → FrE ad I I1 → P (gW G I1) none) : ab_Gam (d + 5) 10010 [.ref (ad 5), .int x0] (gW G I) P X := by
  have h2 := h
  have hF : FrE ad I I := FrE_rfl
  unfold f_10010 at ho
  refine ab_enter (I := i10010) rfl (Nat.le_of_ble_eq_true rfl) (fun R hR => ?_)
  have h10010_J20 : ∀ (l1 : Int32) (l2 : Int32)  (s : Sx) (Ia : Nat → Nat → Int32) (bc bs : Nat) (hPa : Rep Ia ad s) (hFa : FrE ad I Ia) (ho : f_10010_J20 l1 l2 s = some o), R 20 [some (.ref (ad 5)), some (.int l1), some (.int l2)] [] (gW G Ia) bc bs := by
    intro l1 l2  s Ia bc bs  hPa hFa ho
    unfold f_10010_J20 at ho
    refine us_aload_n hR dX9_endExpression_20 rfl ?_
    refine us_dup hR dX9_endExpression_21 rfl ?_
    refine us_getIx hR dX9_endExpression_22 fR_10_47 (ev_k5 hE) rfl (Rep_v hPa 12 (by decide)) ?_
    refine us_iconstC hR dX9_endExpression_25 (c := 1) (by decide) ?_
    refine us_iadd hR dX9_endExpression_26 ?_
    refine us_putIx hE hPa 12 (by decide) hR dX9_endExpression_27 fR_10_47 (Or.inl rfl) (ev_k5 hE) rfl rfl (fun I1 s1 hs1 hP1 hF1 => ?_)
    rw [← hs1, bS_eq] at ho
    have hF1 := hFa.tr hF1
    refine us_aload_n hR dX9_endExpression_30 rfl ?_
    refine us_iconstC hR dX9_endExpression_31 (c := 1) (by decide) ?_
    refine us_putIx hE hP1 13 (by decide) hR dX9_endExpression_32 fR_10_51 (Or.inl rfl) (ev_k5 hE) rfl rfl (fun I2 s2 hs2 hP2 hF2 => ?_)
    rw [← hs2, bS_eq] at ho
    have hF2 := hF1.tr hF2
    refine us_goto hR dX9_endExpression_35 115 (by decide) ?_
    refine us_vret hR dX9_endExpression_115 rfl ?_
    cases ho
    exact h2 _ hP2 hF2
  refine us_aload_n hR dX9_endExpression_0 rfl ?_
  refine us_getR hR dX9_endExpression_1 fR_10_20 (ev_k5 hE) rfl (ev_r_5_1 hE) ?_
  refine us_callV hR dX9_endExpression_4 (y := 6005) (by decide +kernel) (by decide) (J := i6005) rfl rfl rfl rfl (ev_rk hE (by decide)) rfl (Nat.le_of_ble_eq_true rfl) (Nat.zero_le _) (Nat.zero_le _) ?_
  refine cR_last hE hP 24 (by decide) ?_
  refine us_istore_n hR dX9_endExpression_7 (Nat.le_of_ble_eq_true rfl) ?_
  refine us_iload_n hR dX9_endExpression_8 rfl ?_
  refine us_bipushC hR dX9_endExpression_9 (c := 32) (by decide) ?_
  refine us_icmp_eq hR dX9_endExpression_11 20 (by decide) (fun c4 => ?_) (fun c4 => ?_)
  · rw [if_pos c4] at ho
    exact h10010_J20 x0 (xlast (s.1 24))  s I _ _ hP hF ho
  · rw [if_neg c4] at ho
    refine us_iload_n hR dX9_endExpression_14 rfl ?_
    refine us_bipushC hR dX9_endExpression_15 (c := 27) (by decide) ?_
    refine us_icmp_ne hR dX9_endExpression_17 38 (by decide) (fun c5 => ?_) (fun c5 => ?_)
    · rw [if_neg c5] at ho
      refine us_aload_n hR dX9_endExpression_38 rfl ?_
      refine us_getR hR dX9_endExpression_39 fR_10_33 (ev_k5 hE) rfl hL.2.1 ?_
      refine us_getR hR dX9_endExpression_42 fR_10_68 (ev_k1 hE) rfl (ev_r_1_0 hE) ?_
      refine us_iload_n hR dX9_endExpression_45 rfl ?_
      refine us_callV hR dX9_endExpression_46 (y := 6002) (by decide +kernel) (by decide) (J := i6002) rfl rfl rfl rfl (ev_rk hE (by decide)) rfl (Nat.le_of_ble_eq_true rfl) (Nat.zero_le _) (Nat.zero_le _) ?_
      refine cR_get hE hP 0 (by decide) ?_
      refine us_bipushC hR dX9_endExpression_49 (c := 38) (by decide) ?_
      refine us_icmp_ne hR dX9_endExpression_51 61 (by decide) (fun c7 => ?_) (fun c7 => ?_)
      · rw [if_neg c7] at ho
        refine us_aload_n hR dX9_endExpression_61 rfl ?_
        refine us_getR hR dX9_endExpression_62 fR_10_20 (ev_k5 hE) rfl (ev_r_5_1 hE) ?_
        refine us_callV hR dX9_endExpression_65 (y := 6006) (by decide +kernel) (by decide) (J := i6006) rfl rfl rfl rfl (ev_rk hE (by decide)) rfl (Nat.le_of_ble_eq_true rfl) (Nat.zero_le _) (Nat.zero_le _) ?_
        refine cR_takeLast hE hP 24 (by decide) (fun I8 q8 hs8 hP8 hF8 => ?_)
        rw [← hs8] at ho
        obtain ⟨s8, r8⟩ := q8
        rw [bT_eq] at ho
        have hF8 := hF.tr hF8
        refine us_pop hR dX9_endExpression_68 rfl ?_
        refine us_aload_n hR dX9_endExpression_69 rfl ?_
        refine us_getR hR dX9_endExpression_70 fR_10_33 (ev_k5 hE) rfl hL.2.1 ?_
        refine us_getR hR dX9_endExpression_73 fR_10_68 (ev_k1 hE) rfl (ev_r_1_0 hE) ?_
        refine us_iload_n hR dX9_endExpression_76 rfl ?_
        refine us_callV hR dX9_endExpression_77 (y := 6002) (by decide +kernel) (by decide) (J := i6002) rfl rfl rfl rfl (ev_rk hE (by decide)) rfl (Nat.le_of_ble_eq_true rfl) (Nat.zero_le _) (Nat.zero_le _) ?_
        refine cR_get hE hP8 0 (by decide) ?_
        refine us_bipushC hR dX9_endExpression_80 (c := 28) (by decide) ?_
        refine us_icmp_ne hR dX9_endExpression_82 98 (by decide) (fun c10 => ?_) (fun c10 => ?_)
        · rw [if_neg c10] at ho
          refine us_aload_n hR dX9_endExpression_98 rfl ?_
          refine us_iconstC hR dX9_endExpression_99 (c := 0) (by decide) ?_
          refine us_putIx hE hP8 13 (by decide) hR dX9_endExpression_100 fR_10_51 (Or.inl rfl) (ev_k5 hE) rfl rfl (fun I11 s11 hs11 hP11 hF11 => ?_)
          rw [← hs11, bS_eq] at ho
          have hF11 := hF8.tr hF11
          refine us_aload_n hR dX9_endExpression_103 rfl ?_
          refine us_iload_n hR dX9_endExpression_104 rfl ?_
          refine us_aload_n hR dX9_endExpression_105 rfl ?_
          refine us_getR hR dX9_endExpression_106 fR_10_14 (ev_k5 hE) rfl (ev_r_5_0 hE) ?_
          refine us_callV hR dX9_endExpression_109 (y := 6006) (by decide +kernel) (by decide) (J := i6006) rfl rfl rfl rfl (ev_rk hE (by decide)) rfl (Nat.le_of_ble_eq_true rfl) (Nat.zero_le _) (Nat.zero_le _) ?_
          refine cR_takeLast hE hP11 23 (by decide) (fun I12 q12 hs12 hP12 hF12 => ?_)
          rw [← hs12] at ho
          obtain ⟨s12, r12⟩ := q12
          rw [bT_eq] at ho
          have hF12 := hF11.tr hF12
          refine us_callV hR dX9_endExpression_112 (y := 10011) (by decide +kernel) (by decide) (J := i10011) rfl rfl rfl rfl (ev_k5 hE) rfl (Nat.le_of_ble_eq_true rfl) (Nat.zero_le _) (Nat.zero_le _) ?_
          refine sp_10011 hE hL hP12  (fun I13 s13 hs13 hP13 hF13 => ?_)
          rw [← hs13, bS_eq] at ho
          have hF13 := hF12.tr hF13
          refine us_vret hR dX9_endExpression_115 rfl ?_
          cases ho
          exact h2 _ hP13 hF13
        · rw [if_pos c10] at ho
          refine us_aload_n hR dX9_endExpression_85 rfl ?_
          refine us_dup hR dX9_endExpression_86 rfl ?_
          refine us_getIx hR dX9_endExpression_87 fR_10_47 (ev_k5 hE) rfl (Rep_v hP8 12 (by decide)) ?_
          refine us_iconstC hR dX9_endExpression_90 (c := 1) (by decide) ?_
          refine us_iadd hR dX9_endExpression_91 ?_
          refine us_putIx hE hP8 12 (by decide) hR dX9_endExpression_92 fR_10_47 (Or.inl rfl) (ev_k5 hE) rfl rfl (fun I14 s14 hs14 hP14 hF14 => ?_)
          rw [← hs14, bS_eq] at ho
          have hF14 := hF8.tr hF14
          refine us_goto hR dX9_endExpression_95 115 (by decide) ?_
          refine us_vret hR dX9_endExpression_115 rfl ?_
          cases ho
          exact h2 _ hP14 hF14
      · rw [if_pos c7] at ho
        refine us_aload_n hR dX9_endExpression_54 rfl ?_
        refine us_callV hR dX9_endExpression_55 (y := 10013) (by decide +kernel) (by decide) (J := i10013) rfl rfl rfl rfl (ev_k5 hE) rfl (Nat.le_of_ble_eq_true rfl) (Nat.zero_le _) (Nat.zero_le _) ?_
        obtain ⟨s15, hs15⟩ := bOv_ex ho
        replace ho := bOv_go ho hs15
        refine sp_10013 hE hL hP  hs15 (fun I15 hP15 hF15 => ?_)
        have hF15 := hF.tr hF15
        refine us_goto hR dX9_endExpression_58 115 (by decide) ?_
        refine us_vret hR dX9_endExpression_115 rfl ?_
        cases ho
        exact h2 _ hP15 hF15
    · rw [if_pos c5] at ho
      exact h10010_J20 x0 (xlast (s.1 24))  s I _ _ hP hF ho
def f_10007_J60  (l1 : Int32) (l2 : Int32) (s : Sx) : Option Sx :=
  if l1 = 24 then
    bS (f_10009 1 s) fun s3 =>
    some s3
  else
    bS (f_10009 0 s) fun s2 =>
    some s2
def f_10007  (s : Sx) : Option Sx :=
  bOv (f_10008 (f_9003 (xg (s.1 0) (s.2 12)) s) s) fun s6 =>
  if (f_7002 s6) = 0 then
    some s6
  else
    if (f_9003 (xg (s.1 0) (s.2 12)) s) = 0 then
      bOv (f_10010 (xg (s.1 0) (s.2 12)) s6) fun s15 =>
      some s15
    else
      if (xg (s.1 0) (s.2 12)) = 23 then
        f_10007_J60 (xg (s.1 0) (s.2 12)) (f_9003 (xg (s.1 0) (s.2 12)) s) s6
      else
        if (xg (s.1 0) (s.2 12)) = 24 then
          f_10007_J60 (xg (s.1 0) (s.2 12)) (f_9003 (xg (s.1 0) (s.2 12)) s) s6
        else
          bS (sB s6 24 (xadd (ev_cap 24) (s6.1 24) (s6.2 12))) fun s12 =>
          bS (sV s12 12 ((s12.2 12) + 1)) fun s13 =>
          bS (sV s13 13 1) fun s14 =>
          some s14
theorem sp_10007 {d : Nat} {G : ab_G} {ad : Nat → Nat} {I : Nat → Nat → Int32} {s : Sx} {P : ab_Pq} {X : ab_Xq} (hE : EV G ad) (hL : LW G ad) (hP : Rep I ad s)   {o : Sx} (ho : f_10007 s = some o) (h : ∀ I1, Rep I1 ad o → FrE ad I I1 → P (gW G I1) none) : ab_Gam (d + 6) 10007 [.ref (ad 5)] (gW G I) P X := by
  have h2 := h
  have hF : FrE ad I I := FrE_rfl
  unfold f_10007 at ho
  refine ab_enter (I := i10007) rfl (Nat.le_of_ble_eq_true rfl) (fun R hR => ?_)
  have h10007_J60 : ∀ (l1 : Int32) (l2 : Int32)  (s : Sx) (Ia : Nat → Nat → Int32) (bc bs : Nat) (hPa : Rep Ia ad s) (hFa : FrE ad I Ia) (ho : f_10007_J60 l1 l2 s = some o), R 60 [some (.ref (ad 5)), some (.int l1), some (.int l2)] [] (gW G Ia) bc bs := by
    intro l1 l2  s Ia bc bs  hPa hFa ho
    unfold f_10007_J60 at ho
    refine us_aload_n hR dX9_operator_60 rfl ?_
    refine us_iload_n hR dX9_operator_61 rfl ?_
    refine us_bipushC hR dX9_operator_62 (c := 24) (by decide) ?_
    refine us_icmp_ne hR dX9_operator_64 71 (by decide) (fun c1 => ?_) (fun c1 => ?_)
    · rw [if_neg c1] at ho
      refine us_iconstC hR dX9_operator_71 (c := 0) (by decide) ?_
      refine us_callV hR dX9_operator_72 (y := 10009) (by decide +kernel) (by decide) (J := i10009) rfl rfl rfl rfl (ev_k5 hE) rfl (Nat.le_of_ble_eq_true rfl) (Nat.zero_le _) (Nat.zero_le _) ?_
      refine sp_10009 hE hL hPa  (fun I2 s2 hs2 hP2 hF2 => ?_)
      rw [← hs2, bS_eq] at ho
      have hF2 := hFa.tr hF2
      refine us_goto hR dX9_operator_75 104 (by decide) ?_
      refine us_vret hR dX9_operator_104 rfl ?_
      cases ho
      exact h2 _ hP2 hF2
    · rw [if_pos c1] at ho
      refine us_iconstC hR dX9_operator_67 (c := 1) (by decide) ?_
      refine us_goto hR dX9_operator_68 72 (by decide) ?_
      refine us_callV hR dX9_operator_72 (y := 10009) (by decide +kernel) (by decide) (J := i10009) rfl rfl rfl rfl (ev_k5 hE) rfl (Nat.le_of_ble_eq_true rfl) (Nat.zero_le _) (Nat.zero_le _) ?_
      refine sp_10009 hE hL hPa  (fun I3 s3 hs3 hP3 hF3 => ?_)
      rw [← hs3, bS_eq] at ho
      have hF3 := hFa.tr hF3
      refine us_goto hR dX9_operator_75 104 (by decide) ?_
      refine us_vret hR dX9_operator_104 rfl ?_
      cases ho
      exact h2 _ hP3 hF3
  refine us_aload_n hR dX9_operator_0 rfl ?_
  refine us_getR hR dX9_operator_1 fR_10_33 (ev_k5 hE) rfl hL.2.1 ?_
  refine us_getR hR dX9_operator_4 fR_10_68 (ev_k1 hE) rfl (ev_r_1_0 hE) ?_
  refine us_aload_n hR dX9_operator_7 rfl ?_
  refine us_getIx hR dX9_operator_8 fR_10_47 (ev_k5 hE) rfl (Rep_v hP 12 (by decide)) ?_
  refine us_callV hR dX9_operator_11 (y := 6002) (by decide +kernel) (by decide) (J := i6002) rfl rfl rfl rfl (ev_rk hE (by decide)) rfl (Nat.le_of_ble_eq_true rfl) (Nat.zero_le _) (Nat.zero_le _) ?_
  refine cR_get hE hP 0 (by decide) ?_
  refine us_istore_n hR dX9_operator_14 (Nat.le_of_ble_eq_true rfl) ?_
  refine us_iload_n hR dX9_operator_15 rfl ?_
  refine us_callS hR dX9_operator_16 (y := 9003) (by decide +kernel) (by decide) (J := i9003) rfl rfl rfl rfl (rest := _) (Nat.le_of_ble_eq_true rfl) (Nat.zero_le _) (Nat.zero_le _) ?_
  refine sp_9003 hE hP  ?_
  refine us_istore_n hR dX9_operator_19 (Nat.le_of_ble_eq_true rfl) ?_
  refine us_aload_n hR dX9_operator_20 rfl ?_
  refine us_iload_n hR dX9_operator_21 rfl ?_
  refine us_callV hR dX9_operator_22 (y := 10008) (by decide +kernel) (by decide) (J := i10008) rfl rfl rfl rfl (ev_k5 hE) rfl (Nat.le_of_ble_eq_true rfl) (Nat.zero_le _) (Nat.zero_le _) ?_
  obtain ⟨s6, hs6⟩ := bOv_ex ho
  replace ho := bOv_go ho hs6
  refine sp_10008 hE hL hP  hs6 (fun I6 hP6 hF6 => ?_)
  have hF6 := hF.tr hF6
  refine us_aload_n hR dX9_operator_25 rfl ?_
  refine us_getR hR dX9_operator_26 fR_10_34 (ev_k5 hE) rfl hL.2.2 ?_
  refine us_callV hR dX9_operator_29 (y := 7002) (by decide +kernel) (by decide) (J := i7002) rfl rfl rfl rfl (ev_k3 hE) rfl (Nat.le_of_ble_eq_true rfl) (Nat.zero_le _) (Nat.zero_le _) ?_
  refine sp_7002 hE hP6  (fun hb7 => ?_)
  refine us_if_ne hR dX9_operator_32 36 (by decide) (fun c8 => ?_) (fun c8 => ?_)
  · rw [if_neg c8] at ho
    refine us_iload_n hR dX9_operator_36 rfl ?_
    refine us_if_ne hR dX9_operator_37 48 (by decide) (fun c9 => ?_) (fun c9 => ?_)
    · rw [if_neg c9] at ho
      refine us_iload_n hR dX9_operator_48 rfl ?_
      refine us_bipushC hR dX9_operator_49 (c := 23) (by decide) ?_
      refine us_icmp_eq hR dX9_operator_51 60 (by decide) (fun c10 => ?_) (fun c10 => ?_)
      · rw [if_pos c10] at ho
        exact h10007_J60 (xg (s.1 0) (s.2 12)) (f_9003 (xg (s.1 0) (s.2 12)) s)  s6 I6 _ _ hP6 hF6 ho
      · rw [if_neg c10] at ho
        refine us_iload_n hR dX9_operator_54 rfl ?_
        refine us_bipushC hR dX9_operator_55 (c := 24) (by decide) ?_
        refine us_icmp_ne hR dX9_operator_57 78 (by decide) (fun c11 => ?_) (fun c11 => ?_)
        · rw [if_neg c11] at ho
          refine us_aload_n hR dX9_operator_78 rfl ?_
          refine us_getR hR dX9_operator_79 fR_10_20 (ev_k5 hE) rfl (ev_r_5_1 hE) ?_
          refine us_aload_n hR dX9_operator_82 rfl ?_
          refine us_getIx hR dX9_operator_83 fR_10_47 (ev_k5 hE) rfl (Rep_v hP6 12 (by decide)) ?_
          refine us_callV hR dX9_operator_86 (y := 6004) (by decide +kernel) (by decide) (J := i6004) rfl rfl rfl rfl (ev_rk hE (by decide)) rfl (Nat.le_of_ble_eq_true rfl) (Nat.zero_le _) (Nat.zero_le _) ?_
          refine cR_add hE hP6 24 (by decide) (fun I12 s12 hs12 hP12 hF12 => ?_)
          rw [← hs12, bS_eq] at ho
          have hF12 := hF6.tr hF12
          refine us_aload_n hR dX9_operator_89 rfl ?_
          refine us_dup hR dX9_operator_90 rfl ?_
          refine us_getIx hR dX9_operator_91 fR_10_47 (ev_k5 hE) rfl (Rep_v hP12 12 (by decide)) ?_
          refine us_iconstC hR dX9_operator_94 (c := 1) (by decide) ?_
          refine us_iadd hR dX9_operator_95 ?_
          refine us_putIx hE hP12 12 (by decide) hR dX9_operator_96 fR_10_47 (Or.inl rfl) (ev_k5 hE) rfl rfl (fun I13 s13 hs13 hP13 hF13 => ?_)
          rw [← hs13, bS_eq] at ho
          have hF13 := hF12.tr hF13
          refine us_aload_n hR dX9_operator_99 rfl ?_
          refine us_iconstC hR dX9_operator_100 (c := 1) (by decide) ?_
          refine us_putIx hE hP13 13 (by decide) hR dX9_operator_101 fR_10_51 (Or.inl rfl) (ev_k5 hE) rfl rfl (fun I14 s14 hs14 hP14 hF14 => ?_)
          rw [← hs14, bS_eq] at ho
          have hF14 := hF13.tr hF14
          refine us_vret hR dX9_operator_104 rfl ?_
          cases ho
          exact h2 _ hP14 hF14
        · rw [if_pos c11] at ho
          exact h10007_J60 (xg (s.1 0) (s.2 12)) (f_9003 (xg (s.1 0) (s.2 12)) s)  s6 I6 _ _ hP6 hF6 ho
    · rw [if_pos c9] at ho
      refine us_aload_n hR dX9_operator_40 rfl ?_
      refine us_iload_n hR dX9_operator_41 rfl ?_
      refine us_callV hR dX9_operator_42 (y := 10010) (by decide +kernel) (by decide) (J := i10010) rfl rfl rfl rfl (ev_k5 hE) rfl (Nat.le_of_ble_eq_true rfl) (Nat.zero_le _) (Nat.zero_le _) ?_
      obtain ⟨s15, hs15⟩ := bOv_ex ho
      replace ho := bOv_go ho hs15
      refine sp_10010 hE hL hP6  hs15 (fun I15 hP15 hF15 => ?_)
      have hF15 := hF6.tr hF15
      refine us_goto hR dX9_operator_45 104 (by decide) ?_
      refine us_vret hR dX9_operator_104 rfl ?_
      cases ho
      exact h2 _ hP15 hF15
  · rw [if_pos c8] at ho
    refine us_vret hR dX9_operator_35 rfl ?_
    cases ho
    exact h2 _ hP6 hF6
def f_10001_L57  : Nat → Int32 → Int32 → Int32 → Int32 → Sx → Option Sx
  | 0, _, _, _, _, _ => none
  | n + 1, l3, l4, l5, l6, s =>
    if 1000000 ≤ l6 then
      some s
    else
      if (f_7002 s) = 0 then
        some s
      else
        if (s.2 13) = 0 then
          bS (f_10002 s) fun s8 =>
          f_10001_L57 n l3 l4 l5 (l6 + 1) s8
        else
          if (s.2 13) = 1 then
            bOv (f_10005 s) fun s7 =>
            f_10001_L57 n l3 l4 l5 (l6 + 1) s7
          else
            bOv (f_10007 s) fun s6 =>
            f_10001_L57 n l3 l4 l5 (l6 + 1) s6
def f_10001 (x2 : Int32) (x3 : Int32) (x4 : Int32) (s : Sx) : Option Sx :=
  bS (f_7001 x2 x3 x4 s) fun s9 =>
  bS (sB s9 23 []) fun s10 =>
  bS (sB s10 24 []) fun s11 =>
  bS (sV s11 12 0) fun s12 =>
  bS (sV s12 13 0) fun s13 =>
  f_10001_L57 1000100 x2 x3 x4 0 s13
theorem sp_10001 {d : Nat} {G : ab_G} {ad : Nat → Nat} {I : Nat → Nat → Int32} {s : Sx} {P : ab_Pq} {X : ab_Xq} (hE0 : EV G ad) (hP : Rep I ad s) {x2 : Int32} {x3 : Int32} {x4 : Int32}  {o : Sx} (ho : f_10001 x2 x3 x4 s = some o) (h : ∀ I1, Rep I1 ad o → FrE ad I I1 → P (gW (sR (sR (sR G (ad 5) 2 (some (ad 0))) (ad 5) 3 (some (ad 1))) (ad 5) 4 (some (ad 3))) I1) none) : ab_Gam (d + 7) 10001 [.ref (ad 5), .ref (ad 0), .ref (ad 3), .int x2, .int x3, .int x4] (gW G I) P X := by
  have h2 := h
  have hE1 : EV (sR G (ad 5) 2 (some (ad 0))) ad := EV_sR hE0 (by decide) (by decide)
  have hE2 : EV (sR (sR G (ad 5) 2 (some (ad 0))) (ad 5) 3 (some (ad 1))) ad := EV_sR hE1 (by decide) (by decide)
  have hE : EV (sR (sR (sR G (ad 5) 2 (some (ad 0))) (ad 5) 3 (some (ad 1))) (ad 5) 4 (some (ad 3))) ad := EV_sR hE2 (by decide) (by decide)
  have hL : LW (sR (sR (sR G (ad 5) 2 (some (ad 0))) (ad 5) 3 (some (ad 1))) (ad 5) 4 (some (ad 3))) ad := by unfold LW; refine ⟨?_, ?_, ?_⟩ <;> simp [gR_sR, u2]
  have hF : FrE ad I I := FrE_rfl
  unfold f_10001 at ho
  refine ab_enter (I := i10001) rfl (Nat.le_of_ble_eq_true rfl) (fun R hR => ?_)
  have h10001_L57 : ∀ (n : Nat) (l3 : Int32) (l4 : Int32) (l5 : Int32) (l6 : Int32)  (s : Sx) (Ia : Nat → Nat → Int32) (bc bs : Nat) (hPa : Rep Ia ad s) (hFa : FrE ad I Ia) (ho : f_10001_L57 n l3 l4 l5 l6 s = some o), R 57 [some (.ref (ad 5)), some (.ref (ad 0)), some (.ref (ad 3)), some (.int l3), some (.int l4), some (.int l5), some (.int l6)] [] (gW (sR (sR (sR G (ad 5) 2 (some (ad 0))) (ad 5) 3 (some (ad 1))) (ad 5) 4 (some (ad 3))) Ia) bc bs := by
    intro n
    induction n with
    | zero => intro l3 l4 l5 l6  s Ia bc bs  hPa hFa ho; exact absurd ho (by intro hc; cases hc)
    | succ n57 ih57 =>
      intro l3 l4 l5 l6  s Ia bc bs  hPa hFa ho
      rw [f_10001_L57] at ho
      refine us_iload hR dX9_run_57 rfl ?_
      refine us_ldc hR dX9_run_59 (v := 1000000) (by decide +kernel) ?_
      refine us_icmp_ge hR dX9_run_61 113 (by decide) (fun c1 => ?_) (fun c1 => ?_)
      · rw [if_pos c1] at ho
        refine us_vret hR dX9_run_113 rfl ?_
        cases ho
        exact h2 _ hPa hFa
      · rw [if_neg c1] at ho
        refine us_aload_n hR dX9_run_64 rfl ?_
        refine us_getR hR dX9_run_65 fR_10_34 (ev_k5 hE) rfl hL.2.2 ?_
        refine us_callV hR dX9_run_68 (y := 7002) (by decide +kernel) (by decide) (J := i7002) rfl rfl rfl rfl (ev_k3 hE) rfl (Nat.le_of_ble_eq_true rfl) (Nat.zero_le _) (Nat.zero_le _) ?_
        refine sp_7002 hE hPa  (fun hb2 => ?_)
        refine us_if_eq hR dX9_run_71 113 (by decide) (fun c3 => ?_) (fun c3 => ?_)
        · rw [if_pos c3] at ho
          refine us_vret hR dX9_run_113 rfl ?_
          cases ho
          exact h2 _ hPa hFa
        · rw [if_neg c3] at ho
          refine us_aload_n hR dX9_run_74 rfl ?_
          refine us_getIx hR dX9_run_75 fR_10_51 (ev_k5 hE) rfl (Rep_v hPa 13 (by decide)) ?_
          refine us_if_ne hR dX9_run_78 88 (by decide) (fun c4 => ?_) (fun c4 => ?_)
          · rw [if_neg c4] at ho
            refine us_aload_n hR dX9_run_88 rfl ?_
            refine us_getIx hR dX9_run_89 fR_10_51 (ev_k5 hE) rfl (Rep_v hPa 13 (by decide)) ?_
            refine us_iconstC hR dX9_run_92 (c := 1) (by decide) ?_
            refine us_icmp_ne hR dX9_run_93 103 (by decide) (fun c5 => ?_) (fun c5 => ?_)
            · rw [if_neg c5] at ho
              refine us_aload_n hR dX9_run_103 rfl ?_
              refine us_callV hR dX9_run_104 (y := 10007) (by decide +kernel) (by decide) (J := i10007) rfl rfl rfl rfl (ev_k5 hE) rfl (Nat.le_of_ble_eq_true rfl) (Nat.zero_le _) (Nat.zero_le _) ?_
              obtain ⟨s6, hs6⟩ := bOv_ex ho
              replace ho := bOv_go ho hs6
              refine sp_10007 hE hL hPa  hs6 (fun I6 hP6 hF6 => ?_)
              have hF6 := hFa.tr hF6
              refine us_iincC hR dX9_run_107 rfl (Nat.le_of_ble_eq_true rfl) (c := 1) (by decide) ?_
              refine us_goto hR dX9_run_110 57 (by decide) ?_
              exact ih57 l3 l4 l5 (l6 + 1)  s6 I6 _ _ hP6 hF6 ho
            · rw [if_pos c5] at ho
              refine us_aload_n hR dX9_run_96 rfl ?_
              refine us_callV hR dX9_run_97 (y := 10005) (by decide +kernel) (by decide) (J := i10005) rfl rfl rfl rfl (ev_k5 hE) rfl (Nat.le_of_ble_eq_true rfl) (Nat.zero_le _) (Nat.zero_le _) ?_
              obtain ⟨s7, hs7⟩ := bOv_ex ho
              replace ho := bOv_go ho hs7
              refine sp_10005 hE hL hPa  hs7 (fun I7 hP7 hF7 => ?_)
              have hF7 := hFa.tr hF7
              refine us_goto hR dX9_run_100 107 (by decide) ?_
              refine us_iincC hR dX9_run_107 rfl (Nat.le_of_ble_eq_true rfl) (c := 1) (by decide) ?_
              refine us_goto hR dX9_run_110 57 (by decide) ?_
              exact ih57 l3 l4 l5 (l6 + 1)  s7 I7 _ _ hP7 hF7 ho
          · rw [if_pos c4] at ho
            refine us_aload_n hR dX9_run_81 rfl ?_
            refine us_callV hR dX9_run_82 (y := 10002) (by decide +kernel) (by decide) (J := i10002) rfl rfl rfl rfl (ev_k5 hE) rfl (Nat.le_of_ble_eq_true rfl) (Nat.zero_le _) (Nat.zero_le _) ?_
            refine sp_10002 hE hL hPa  (fun I8 s8 hs8 hP8 hF8 => ?_)
            rw [← hs8, bS_eq] at ho
            have hF8 := hFa.tr hF8
            refine us_goto hR dX9_run_85 107 (by decide) ?_
            refine us_iincC hR dX9_run_107 rfl (Nat.le_of_ble_eq_true rfl) (c := 1) (by decide) ?_
            refine us_goto hR dX9_run_110 57 (by decide) ?_
            exact ih57 l3 l4 l5 (l6 + 1)  s8 I8 _ _ hP8 hF8 ho
  refine us_aload_n hR dX9_run_0 rfl ?_
  refine us_aload_n hR dX9_run_1 rfl ?_
  refine us_putR hR dX9_run_2 fR_10_23 (Or.inl rfl) (ev_k5 hE0) rfl ?_
  show R _ _ _ (gW (sR G (ad 5) 2 (some (ad 0))) I) _ _
  refine us_aload_n hR dX9_run_5 rfl ?_
  refine us_aload_n hR dX9_run_6 rfl ?_
  refine us_getR hR dX9_run_7 fR_10_27 (ev_k0 hE1) rfl (ev_r_0_0 hE1) ?_
  refine us_putR hR dX9_run_10 fR_10_33 (Or.inl rfl) (ev_k5 hE1) rfl ?_
  show R _ _ _ (gW (sR (sR G (ad 5) 2 (some (ad 0))) (ad 5) 3 (some (ad 1))) I) _ _
  refine us_aload_n hR dX9_run_13 rfl ?_
  refine us_aload_n hR dX9_run_14 rfl ?_
  refine us_putR hR dX9_run_15 fR_10_34 (Or.inl rfl) (ev_k5 hE2) rfl ?_
  show R _ _ _ (gW (sR (sR (sR G (ad 5) 2 (some (ad 0))) (ad 5) 3 (some (ad 1))) (ad 5) 4 (some (ad 3))) I) _ _
  refine us_aload_n hR dX9_run_18 rfl ?_
  refine us_getR hR dX9_run_19 fR_10_34 (ev_k5 hE) rfl hL.2.2 ?_
  refine us_iload_n hR dX9_run_22 rfl ?_
  refine us_iload hR dX9_run_23 rfl ?_
  refine us_iload hR dX9_run_25 rfl ?_
  refine us_callV hR dX9_run_27 (y := 7001) (by decide +kernel) (by decide) (J := i7001) rfl rfl rfl rfl (ev_k3 hE) rfl (Nat.le_of_ble_eq_true rfl) (Nat.zero_le _) (Nat.zero_le _) ?_
  refine sp_7001 hE hP  (fun I9 s9 hs9 hP9 hF9 => ?_)
  rw [← hs9, bS_eq] at ho
  have hF9 := hF.tr hF9
  refine us_aload_n hR dX9_run_30 rfl ?_
  refine us_getR hR dX9_run_31 fR_10_14 (ev_k5 hE) rfl (ev_r_5_0 hE) ?_
  refine us_callV hR dX9_run_34 (y := 6008) (by decide +kernel) (by decide) (J := i6008) rfl rfl rfl rfl (ev_rk hE (by decide)) rfl (Nat.le_of_ble_eq_true rfl) (Nat.zero_le _) (Nat.zero_le _) ?_
  refine cR_empty hE hP9 23 (by decide) (fun I10 s10 hs10 hP10 hF10 => ?_)
  rw [← hs10, bS_eq] at ho
  have hF10 := hF9.tr hF10
  refine us_aload_n hR dX9_run_37 rfl ?_
  refine us_getR hR dX9_run_38 fR_10_20 (ev_k5 hE) rfl (ev_r_5_1 hE) ?_
  refine us_callV hR dX9_run_41 (y := 6008) (by decide +kernel) (by decide) (J := i6008) rfl rfl rfl rfl (ev_rk hE (by decide)) rfl (Nat.le_of_ble_eq_true rfl) (Nat.zero_le _) (Nat.zero_le _) ?_
  refine cR_empty hE hP10 24 (by decide) (fun I11 s11 hs11 hP11 hF11 => ?_)
  rw [← hs11, bS_eq] at ho
  have hF11 := hF10.tr hF11
  refine us_aload_n hR dX9_run_44 rfl ?_
  refine us_iconstC hR dX9_run_45 (c := 0) (by decide) ?_
  refine us_putIx hE hP11 12 (by decide) hR dX9_run_46 fR_10_47 (Or.inl rfl) (ev_k5 hE) rfl rfl (fun I12 s12 hs12 hP12 hF12 => ?_)
  rw [← hs12, bS_eq] at ho
  have hF12 := hF11.tr hF12
  refine us_aload_n hR dX9_run_49 rfl ?_
  refine us_iconstC hR dX9_run_50 (c := 0) (by decide) ?_
  refine us_putIx hE hP12 13 (by decide) hR dX9_run_51 fR_10_51 (Or.inl rfl) (ev_k5 hE) rfl rfl (fun I13 s13 hs13 hP13 hF13 => ?_)
  rw [← hs13, bS_eq] at ho
  have hF13 := hF12.tr hF13
  refine us_iconstC hR dX9_run_54 (c := 0) (by decide) ?_
  refine us_istore hR dX9_run_55 (Nat.le_of_ble_eq_true rfl) ?_
  exact h10001_L57 _ x2 x3 x4 0  s13 I13 _ _ hP13 hF13 ho
