/-! shadows: the machine -/
def f_3004_J34  (l1 : Int32) (l2 : Int32) (l3 : Int32) (k0 : Int32) (s : Sx) : Sx :=
  bS (sB s 22 (xadd (ev_cap 22) (s.1 22) k0)) fun s1 =>
  bS (sV s1 11 l2) fun s2 =>
  s2
def f_3004_J15  (l1 : Int32) (l2 : Int32) (k0 : Int32) (s : Sx) : Sx :=
  if k0 = l1 then
    if k0 = 0 then
      f_3004_J34 l1 l2 k0 0 s
    else
      f_3004_J34 l1 l2 k0 1 s
  else
    s
def f_3004 (x0 : Int32) (x1 : Int32) (s : Sx) : Sx :=
  bT (sB s 22 (s.1 22).dropLast, xlast (s.1 22)) fun s5 r5 =>
  if r5 = 0 then
    f_3004_J15 x0 x1 0 s5
  else
    f_3004_J15 x0 x1 1 s5
theorem sp_3004 {d : Nat} {G : ab_G} {ad : Nat → Nat} {I : Nat → Nat → Int32} {s : Sx} {P : ab_Pq} {X : ab_Xq} (hE : EV G ad) (hL : LM G ad) (hP : Rep I ad s) {x0 : Int32} {x1 : Int32}  (h : ∀ I1 o, o = f_3004 x0 x1 s → Rep I1 ad o → FrE ad I I1 → P (gW G I1) none) : ab_Gam (d + 2) 3004 [.ref (ad 4), .int x0, .int x1] (gW G I) P X := by
  obtain ⟨o, ho⟩ : ∃ o, o = f_3004 x0 x1 s := ⟨_, rfl⟩
  have h2 := fun I1 => h I1 o ho
  have hF : FrE ad I I := FrE_rfl
  unfold f_3004 at ho
  refine ab_enter (I := i3004) rfl (Nat.le_of_ble_eq_true rfl) (fun R hR => ?_)
  have h3004_J34 : ∀ (l1 : Int32) (l2 : Int32) (l3 : Int32) (k0 : Int32)  (s : Sx) (Ia : Nat → Nat → Int32) (bc bs : Nat) (hPa : Rep Ia ad s) (hFa : FrE ad I Ia) (ho : o = f_3004_J34 l1 l2 l3 k0 s), R 34 [some (.ref (ad 4)), some (.int l1), some (.int l2), some (.int l3)] [.int k0, .ref (ad (6 + 22))] (gW G Ia) bc bs := by
    intro l1 l2 l3 k0  s Ia bc bs  hPa hFa ho
    unfold f_3004_J34 at ho
    refine us_callV hR dX2_decide_34 (y := 6004) (by decide +kernel) (by decide) (J := i6004) rfl rfl rfl rfl (ev_rk hE (by decide)) rfl (Nat.le_of_ble_eq_true rfl) (Nat.zero_le _) (Nat.zero_le _) ?_
    refine cR_add hE hPa 22 (by decide) (fun I1 s1 hs1 hP1 hF1 => ?_)
    rw [← hs1, bS_eq] at ho
    have hF1 := hFa.tr hF1
    refine us_aload_n hR dX2_decide_37 rfl ?_
    refine us_iload_n hR dX2_decide_38 rfl ?_
    refine us_putIx hE hP1 11 (by decide) hR dX2_decide_39 fR_3_37 (Or.inl rfl) (ev_k4 hE) rfl rfl (fun I2 s2 hs2 hP2 hF2 => ?_)
    rw [← hs2, bS_eq] at ho
    have hF2 := hF1.tr hF2
    refine us_vret hR dX2_decide_42 rfl ?_
    subst ho
    exact h2 _ hP2 hF2
  have h3004_J15 : ∀ (l1 : Int32) (l2 : Int32) (k0 : Int32)  (s : Sx) (Ia : Nat → Nat → Int32) (bc bs : Nat) (hPa : Rep Ia ad s) (hFa : FrE ad I Ia) (ho : o = f_3004_J15 l1 l2 k0 s), R 15 [some (.ref (ad 4)), some (.int l1), some (.int l2), none] [.int k0] (gW G Ia) bc bs := by
    intro l1 l2 k0  s Ia bc bs  hPa hFa ho
    unfold f_3004_J15 at ho
    refine us_istore_n hR dX2_decide_15 (Nat.le_of_ble_eq_true rfl) ?_
    refine us_iload_n hR dX2_decide_16 rfl ?_
    refine us_iload_n hR dX2_decide_17 rfl ?_
    refine us_icmp_ne hR dX2_decide_18 42 (by decide) (fun c3 => ?_) (fun c3 => ?_)
    · rw [if_neg c3] at ho
      refine us_vret hR dX2_decide_42 rfl ?_
      subst ho
      exact h2 _ hPa hFa
    · rw [if_pos c3] at ho
      refine us_aload_n hR dX2_decide_21 rfl ?_
      refine us_getR hR dX2_decide_22 fR_3_14 (ev_k4 hE) rfl (ev_r_4_0 hE) ?_
      refine us_iload_n hR dX2_decide_25 rfl ?_
      refine us_if_eq hR dX2_decide_26 33 (by decide) (fun c4 => ?_) (fun c4 => ?_)
      · rw [if_pos c4] at ho
        refine us_iconstC hR dX2_decide_33 (c := 0) (by decide) ?_
        exact h3004_J34 l1 l2 k0 0  s Ia _ _ hPa hFa ho
      · rw [if_neg c4] at ho
        refine us_iconstC hR dX2_decide_29 (c := 1) (by decide) ?_
        refine us_goto hR dX2_decide_30 34 (by decide) ?_
        exact h3004_J34 l1 l2 k0 1  s Ia _ _ hPa hFa ho
  refine us_aload_n hR dX2_decide_0 rfl ?_
  refine us_getR hR dX2_decide_1 fR_3_14 (ev_k4 hE) rfl (ev_r_4_0 hE) ?_
  refine us_callV hR dX2_decide_4 (y := 6006) (by decide +kernel) (by decide) (J := i6006) rfl rfl rfl rfl (ev_rk hE (by decide)) rfl (Nat.le_of_ble_eq_true rfl) (Nat.zero_le _) (Nat.zero_le _) ?_
  refine cR_takeLast hE hP 22 (by decide) (fun I5 q5 hs5 hP5 hF5 => ?_)
  rw [← hs5] at ho
  obtain ⟨s5, r5⟩ := q5
  rw [bT_eq] at ho
  have hF5 := hF.tr hF5
  refine us_if_eq hR dX2_decide_7 14 (by decide) (fun c6 => ?_) (fun c6 => ?_)
  · rw [if_pos c6] at ho
    refine us_iconstC hR dX2_decide_14 (c := 0) (by decide) ?_
    exact h3004_J15 x0 x1 0  s5 I5 _ _ hP5 hF5 ho
  · rw [if_neg c6] at ho
    refine us_iconstC hR dX2_decide_10 (c := 1) (by decide) ?_
    refine us_goto hR dX2_decide_11 15 (by decide) ?_
    exact h3004_J15 x0 x1 1  s5 I5 _ _ hP5 hF5 ho
def f_3005_L25  : Nat → Int32 → Int32 → Sx → Option Sx
  | 0, _, _, _ => none
  | n + 1, l1, l2, s =>
    if l2 < 0 then
      bS (sV s 11 (f_4015 l1 s)) fun s3 =>
      some s3
    else
      bT (sB s 22 (s.1 22).dropLast, xlast (s.1 22)) fun s4 r4 =>
      bS (f_7014 l2 r4 s4) fun s5 =>
      f_3005_L25 n l1 (l2 + (-1)) s5
def f_3005 (x0 : Int32) (s : Sx) : Option Sx :=
  bO (f_7015 (s.2 11) s) fun s6 r6 =>
  if r6 = 0 then
    some s6
  else
    f_3005_L25 400 x0 ((f_4013 x0 s6) - 1) s6
theorem sp_3005 {d : Nat} {G : ab_G} {ad : Nat → Nat} {I : Nat → Nat → Int32} {s : Sx} {P : ab_Pq} {X : ab_Xq} (hE : EV G ad) (hL : LM G ad) (hP : Rep I ad s) {x0 : Int32}  {o : Sx} (ho : f_3005 x0 s = some o) (h : ∀ I1, Rep I1 ad o → FrE ad I I1 → P (gW G I1) none) : ab_Gam (d + 4) 3005 [.ref (ad 4), .int x0] (gW G I) P X := by
  have h2 := h
  have hF : FrE ad I I := FrE_rfl
  unfold f_3005 at ho
  refine ab_enter (I := i3005) rfl (Nat.le_of_ble_eq_true rfl) (fun R hR => ?_)
  have h3005_L25 : ∀ (n : Nat) (l1 : Int32) (l2 : Int32)  (s : Sx) (Ia : Nat → Nat → Int32) (bc bs : Nat) (hPa : Rep Ia ad s) (hFa : FrE ad I Ia) (ho : f_3005_L25 n l1 l2 s = some o), R 25 [some (.ref (ad 4)), some (.int l1), some (.int l2)] [] (gW G Ia) bc bs := by
    intro n
    induction n with
    | zero => intro l1 l2  s Ia bc bs  hPa hFa ho; exact absurd ho (by intro hc; cases hc)
    | succ n25 ih25 =>
      intro l1 l2  s Ia bc bs  hPa hFa ho
      rw [f_3005_L25] at ho
      refine us_iload_n hR dX2_call_25 rfl ?_
      refine us_if_lt hR dX2_call_26 50 (by decide) (fun c1 => ?_) (fun c1 => ?_)
      · rw [if_pos c1] at ho
        refine us_aload_n hR dX2_call_50 rfl ?_
        refine us_aload_n hR dX2_call_51 rfl ?_
        refine us_getR hR dX2_call_52 fR_3_20 (ev_k4 hE) rfl hL.1 ?_
        refine us_iload_n hR dX2_call_55 rfl ?_
        refine us_callV hR dX2_call_56 (y := 4015) (by decide +kernel) (by decide) (J := i4015) rfl rfl rfl rfl (ev_k0 hE) rfl (Nat.le_of_ble_eq_true rfl) (Nat.zero_le _) (Nat.zero_le _) ?_
        refine sp_4015 hE hPa  ?_
        refine us_putIx hE hPa 11 (by decide) hR dX2_call_59 fR_3_37 (Or.inl rfl) (ev_k4 hE) rfl rfl (fun I3 s3 hs3 hP3 hF3 => ?_)
        rw [← hs3, bS_eq] at ho
        have hF3 := hFa.tr hF3
        refine us_vret hR dX2_call_62 rfl ?_
        cases ho
        exact h2 _ hP3 hF3
      · rw [if_neg c1] at ho
        refine us_aload_n hR dX2_call_29 rfl ?_
        refine us_getR hR dX2_call_30 fR_3_24 (ev_k4 hE) rfl hL.2 ?_
        refine us_iload_n hR dX2_call_33 rfl ?_
        refine us_aload_n hR dX2_call_34 rfl ?_
        refine us_getR hR dX2_call_35 fR_3_14 (ev_k4 hE) rfl (ev_r_4_0 hE) ?_
        refine us_callV hR dX2_call_38 (y := 6006) (by decide +kernel) (by decide) (J := i6006) rfl rfl rfl rfl (ev_rk hE (by decide)) rfl (Nat.le_of_ble_eq_true rfl) (Nat.zero_le _) (Nat.zero_le _) ?_
        refine cR_takeLast hE hPa 22 (by decide) (fun I4 q4 hs4 hP4 hF4 => ?_)
        rw [← hs4] at ho
        obtain ⟨s4, r4⟩ := q4
        rw [bT_eq] at ho
        have hF4 := hFa.tr hF4
        refine us_callV hR dX2_call_41 (y := 7014) (by decide +kernel) (by decide) (J := i7014) rfl rfl rfl rfl (ev_k3 hE) rfl (Nat.le_of_ble_eq_true rfl) (Nat.zero_le _) (Nat.zero_le _) ?_
        refine sp_7014 hE hP4  (fun I5 s5 hs5 hP5 hF5 => ?_)
        rw [← hs5, bS_eq] at ho
        have hF5 := hF4.tr hF5
        refine us_iincC hR dX2_call_44 rfl (Nat.le_of_ble_eq_true rfl) (c := (-1)) (by decide) ?_
        refine us_goto hR dX2_call_47 25 (by decide) ?_
        exact ih25 l1 (l2 + (-1))  s5 I5 _ _ hP5 hF5 ho
  refine us_aload_n hR dX2_call_0 rfl ?_
  refine us_getR hR dX2_call_1 fR_3_24 (ev_k4 hE) rfl hL.2 ?_
  refine us_aload_n hR dX2_call_4 rfl ?_
  refine us_getIx hR dX2_call_5 fR_3_37 (ev_k4 hE) rfl (Rep_v hP 11 (by decide)) ?_
  refine us_callV hR dX2_call_8 (y := 7015) (by decide +kernel) (by decide) (J := i7015) rfl rfl rfl rfl (ev_k3 hE) rfl (Nat.le_of_ble_eq_true rfl) (Nat.zero_le _) (Nat.zero_le _) ?_
  obtain ⟨q6, hs6⟩ := bO_ex ho
  obtain ⟨s6, r6⟩ := q6
  replace ho := bO_go ho hs6
  refine sp_7015 hE hP  hs6 (fun I6 hb6 hP6 hF6 => ?_)
  have hF6 := hF.tr hF6
  refine us_if_eq hR dX2_call_11 62 (by decide) (fun c7 => ?_) (fun c7 => ?_)
  · rw [if_pos c7] at ho
    refine us_vret hR dX2_call_62 rfl ?_
    cases ho
    exact h2 _ hP6 hF6
  · rw [if_neg c7] at ho
    refine us_aload_n hR dX2_call_14 rfl ?_
    refine us_getR hR dX2_call_15 fR_3_20 (ev_k4 hE) rfl hL.1 ?_
    refine us_iload_n hR dX2_call_18 rfl ?_
    refine us_callV hR dX2_call_19 (y := 4013) (by decide +kernel) (by decide) (J := i4013) rfl rfl rfl rfl (ev_k0 hE) rfl (Nat.le_of_ble_eq_true rfl) (Nat.zero_le _) (Nat.zero_le _) ?_
    refine sp_4013 hE hP6  ?_
    refine us_iconstC hR dX2_call_22 (c := 1) (by decide) ?_
    refine us_isub hR dX2_call_23 ?_
    refine us_istore_n hR dX2_call_24 (Nat.le_of_ble_eq_true rfl) ?_
    exact h3005_L25 _ x0 ((f_4013 x0 s6) - 1)  s6 I6 _ _ hP6 hF6 ho
def f_3002 (x0 : Int32) (x1 : Int32) (s : Sx) : Sx :=
  if x0 = 0 then
    bT (f_7009 s) fun s6 r6 =>
    s6
  else if x0 = 1 then
    bS (sB s 22 (xadd (ev_cap 22) (s.1 22) x1)) fun s7 =>
    s7
  else if x0 = 2 then
    bS (sB s 22 (xadd (ev_cap 22) (s.1 22) (f_7013 x1 s))) fun s9 =>
    s9
  else if x0 = 3 then
    bT (sB s 22 (s.1 22).dropLast, xlast (s.1 22)) fun s10 r10 =>
    bS (f_7014 x1 r10 s10) fun s11 =>
    s11
  else if x0 = 4 then
    bT (sB s 22 (s.1 22).dropLast, xlast (s.1 22)) fun s12 r12 =>
    bT (sB s12 22 (s12.1 22).dropLast, xlast (s12.1 22)) fun s13 r13 =>
    bS (f_7012 r13 r12 s13) fun s14 =>
    s14
  else if x0 = 5 then
    bT (f_7010 s) fun s15 r15 =>
    bS (sB s15 22 (xadd (ev_cap 22) (s15.1 22) r15)) fun s16 =>
    s16
  else if x0 = 6 then
    bT (sB s 22 (s.1 22).dropLast, xlast (s.1 22)) fun s17 r17 =>
    bS (f_7011 r17 s17) fun s18 =>
    s18
  else if x0 = 7 then
    bT (sB s 22 (s.1 22).dropLast, xlast (s.1 22)) fun s19 r19 =>
    s19
  else if x0 = 8 then
    bT (sB s 22 (s.1 22).dropLast, xlast (s.1 22)) fun s20 r20 =>
    bT (f_7017 x1 r20 s20) fun s21 r21 =>
    bS (sB s21 22 (xadd (ev_cap 22) (s21.1 22) r21)) fun s22 =>
    s22
  else if x0 = 9 then
    bT (sB s 22 (s.1 22).dropLast, xlast (s.1 22)) fun s23 r23 =>
    bT (sB s23 22 (s23.1 22).dropLast, xlast (s23.1 22)) fun s24 r24 =>
    bT (f_7018 x1 r24 r23 s24) fun s25 r25 =>
    bS (sB s25 22 (xadd (ev_cap 22) (s25.1 22) r25)) fun s26 =>
    s26
  else
    bT (sB s 22 (s.1 22).dropLast, xlast (s.1 22)) fun s2 r2 =>
    if r2 = 0 then
      bS (sB s2 22 (xadd (ev_cap 22) (s2.1 22) 0)) fun s5 =>
      s5
    else
      bS (sB s2 22 (xadd (ev_cap 22) (s2.1 22) 1)) fun s4 =>
      s4
theorem sp_3002 {d : Nat} {G : ab_G} {ad : Nat → Nat} {I : Nat → Nat → Int32} {s : Sx} {P : ab_Pq} {X : ab_Xq} (hE : EV G ad) (hL : LM G ad) (hP : Rep I ad s) {x0 : Int32} {x1 : Int32}  (h : ∀ I1 o, o = f_3002 x0 x1 s → Rep I1 ad o → FrE ad I I1 → P (gW G I1) none) : ab_Gam (d + 4) 3002 [.ref (ad 4), .int x0, .int x1] (gW G I) P X := by
  obtain ⟨o, ho⟩ : ∃ o, o = f_3002 x0 x1 s := ⟨_, rfl⟩
  have h2 := fun I1 => h I1 o ho
  have hF : FrE ad I I := FrE_rfl
  unfold f_3002 at ho
  refine ab_enter (I := i3002) rfl (Nat.le_of_ble_eq_true rfl) (fun R hR => ?_)
  refine us_iload_n hR dX2_compute_0 rfl ?_
  refine us_tsw hR dX2_compute_1 (fun c1 => ⟨by decide, ?_⟩) (by decide) ⟨fun c1 => ⟨by decide, ?_⟩, fun c1 => ⟨by decide, ?_⟩, fun c1 => ⟨by decide, ?_⟩, fun c1 => ⟨by decide, ?_⟩, fun c1 => ⟨by decide, ?_⟩, fun c1 => ⟨by decide, ?_⟩, fun c1 => ⟨by decide, ?_⟩, fun c1 => ⟨by decide, ?_⟩, fun c1 => ⟨by decide, ?_⟩, fun c1 => ⟨by decide, ?_⟩, trivial⟩
  · rw [if_neg (i_sw_d (v := 0) c1 (by decide)), if_neg (i_sw_d (v := 1) c1 (by decide)), if_neg (i_sw_d (v := 2) c1 (by decide)), if_neg (i_sw_d (v := 3) c1 (by decide)), if_neg (i_sw_d (v := 4) c1 (by decide)), if_neg (i_sw_d (v := 5) c1 (by decide)), if_neg (i_sw_d (v := 6) c1 (by decide)), if_neg (i_sw_d (v := 7) c1 (by decide)), if_neg (i_sw_d (v := 8) c1 (by decide)), if_neg (i_sw_d (v := 9) c1 (by decide))] at ho
    refine us_aload_n hR dX2_compute_246 rfl ?_
    refine us_getR hR dX2_compute_247 fR_3_14 (ev_k4 hE) rfl (ev_r_4_0 hE) ?_
    refine us_aload_n hR dX2_compute_250 rfl ?_
    refine us_getR hR dX2_compute_251 fR_3_14 (ev_k4 hE) rfl (ev_r_4_0 hE) ?_
    refine us_callV hR dX2_compute_254 (y := 6006) (by decide +kernel) (by decide) (J := i6006) rfl rfl rfl rfl (ev_rk hE (by decide)) rfl (Nat.le_of_ble_eq_true rfl) (Nat.zero_le _) (Nat.zero_le _) ?_
    refine cR_takeLast hE hP 22 (by decide) (fun I2 q2 hs2 hP2 hF2 => ?_)
    rw [← hs2] at ho
    obtain ⟨s2, r2⟩ := q2
    rw [bT_eq] at ho
    have hF2 := hF.tr hF2
    refine us_if_ne hR dX2_compute_257 264 (by decide) (fun c3 => ?_) (fun c3 => ?_)
    · rw [if_neg c3] at ho
      refine us_iconstC hR dX2_compute_264 (c := 1) (by decide) ?_
      refine us_callV hR dX2_compute_265 (y := 6004) (by decide +kernel) (by decide) (J := i6004) rfl rfl rfl rfl (ev_rk hE (by decide)) rfl (Nat.le_of_ble_eq_true rfl) (Nat.zero_le _) (Nat.zero_le _) ?_
      refine cR_add hE hP2 22 (by decide) (fun I4 s4 hs4 hP4 hF4 => ?_)
      rw [← hs4, bS_eq] at ho
      have hF4 := hF2.tr hF4
      refine us_vret hR dX2_compute_268 rfl ?_
      subst ho
      exact h2 _ hP4 hF4
    · rw [if_pos c3] at ho
      refine us_iconstC hR dX2_compute_260 (c := 0) (by decide) ?_
      refine us_goto hR dX2_compute_261 265 (by decide) ?_
      refine us_callV hR dX2_compute_265 (y := 6004) (by decide +kernel) (by decide) (J := i6004) rfl rfl rfl rfl (ev_rk hE (by decide)) rfl (Nat.le_of_ble_eq_true rfl) (Nat.zero_le _) (Nat.zero_le _) ?_
      refine cR_add hE hP2 22 (by decide) (fun I5 s5 hs5 hP5 hF5 => ?_)
      rw [← hs5, bS_eq] at ho
      have hF5 := hF2.tr hF5
      refine us_vret hR dX2_compute_268 rfl ?_
      subst ho
      exact h2 _ hP5 hF5
  · rw [if_pos (i_sw (v := 0) c1)] at ho
    refine us_aload_n hR dX2_compute_56 rfl ?_
    refine us_getR hR dX2_compute_57 fR_3_24 (ev_k4 hE) rfl hL.2 ?_
    refine us_callV hR dX2_compute_60 (y := 7009) (by decide +kernel) (by decide) (J := i7009) rfl rfl rfl rfl (ev_k3 hE) rfl (Nat.le_of_ble_eq_true rfl) (Nat.zero_le _) (Nat.zero_le _) ?_
    refine sp_7009 hE hP  (fun I6 q6 hs6 hb6 hP6 hF6 => ?_)
    rw [← hs6] at ho
    obtain ⟨s6, r6⟩ := q6
    rw [bT_eq] at ho
    have hF6 := hF.tr hF6
    refine us_pop hR dX2_compute_63 rfl ?_
    refine us_goto hR dX2_compute_64 268 (by decide) ?_
    refine us_vret hR dX2_compute_268 rfl ?_
    subst ho
    exact h2 _ hP6 hF6
  · rw [if_neg (i_sw_x (v := 1) (w := 0) c1 (by decide)), if_pos (i_sw (v := 1) c1)] at ho
    refine us_aload_n hR dX2_compute_67 rfl ?_
    refine us_getR hR dX2_compute_68 fR_3_14 (ev_k4 hE) rfl (ev_r_4_0 hE) ?_
    refine us_iload_n hR dX2_compute_71 rfl ?_
    refine us_callV hR dX2_compute_72 (y := 6004) (by decide +kernel) (by decide) (J := i6004) rfl rfl rfl rfl (ev_rk hE (by decide)) rfl (Nat.le_of_ble_eq_true rfl) (Nat.zero_le _) (Nat.zero_le _) ?_
    refine cR_add hE hP 22 (by decide) (fun I7 s7 hs7 hP7 hF7 => ?_)
    rw [← hs7, bS_eq] at ho
    have hF7 := hF.tr hF7
    refine us_goto hR dX2_compute_75 268 (by decide) ?_
    refine us_vret hR dX2_compute_268 rfl ?_
    subst ho
    exact h2 _ hP7 hF7
  · rw [if_neg (i_sw_x (v := 2) (w := 0) c1 (by decide)), if_neg (i_sw_x (v := 2) (w := 1) c1 (by decide)), if_pos (i_sw (v := 2) c1)] at ho
    refine us_aload_n hR dX2_compute_78 rfl ?_
    refine us_getR hR dX2_compute_79 fR_3_14 (ev_k4 hE) rfl (ev_r_4_0 hE) ?_
    refine us_aload_n hR dX2_compute_82 rfl ?_
    refine us_getR hR dX2_compute_83 fR_3_24 (ev_k4 hE) rfl hL.2 ?_
    refine us_iload_n hR dX2_compute_86 rfl ?_
    refine us_callV hR dX2_compute_87 (y := 7013) (by decide +kernel) (by decide) (J := i7013) rfl rfl rfl rfl (ev_k3 hE) rfl (Nat.le_of_ble_eq_true rfl) (Nat.zero_le _) (Nat.zero_le _) ?_
    refine sp_7013 hE hP  ?_
    refine us_callV hR dX2_compute_90 (y := 6004) (by decide +kernel) (by decide) (J := i6004) rfl rfl rfl rfl (ev_rk hE (by decide)) rfl (Nat.le_of_ble_eq_true rfl) (Nat.zero_le _) (Nat.zero_le _) ?_
    refine cR_add hE hP 22 (by decide) (fun I9 s9 hs9 hP9 hF9 => ?_)
    rw [← hs9, bS_eq] at ho
    have hF9 := hF.tr hF9
    refine us_goto hR dX2_compute_93 268 (by decide) ?_
    refine us_vret hR dX2_compute_268 rfl ?_
    subst ho
    exact h2 _ hP9 hF9
  · rw [if_neg (i_sw_x (v := 3) (w := 0) c1 (by decide)), if_neg (i_sw_x (v := 3) (w := 1) c1 (by decide)), if_neg (i_sw_x (v := 3) (w := 2) c1 (by decide)), if_pos (i_sw (v := 3) c1)] at ho
    refine us_aload_n hR dX2_compute_96 rfl ?_
    refine us_getR hR dX2_compute_97 fR_3_24 (ev_k4 hE) rfl hL.2 ?_
    refine us_iload_n hR dX2_compute_100 rfl ?_
    refine us_aload_n hR dX2_compute_101 rfl ?_
    refine us_getR hR dX2_compute_102 fR_3_14 (ev_k4 hE) rfl (ev_r_4_0 hE) ?_
    refine us_callV hR dX2_compute_105 (y := 6006) (by decide +kernel) (by decide) (J := i6006) rfl rfl rfl rfl (ev_rk hE (by decide)) rfl (Nat.le_of_ble_eq_true rfl) (Nat.zero_le _) (Nat.zero_le _) ?_
    refine cR_takeLast hE hP 22 (by decide) (fun I10 q10 hs10 hP10 hF10 => ?_)
    rw [← hs10] at ho
    obtain ⟨s10, r10⟩ := q10
    rw [bT_eq] at ho
    have hF10 := hF.tr hF10
    refine us_callV hR dX2_compute_108 (y := 7014) (by decide +kernel) (by decide) (J := i7014) rfl rfl rfl rfl (ev_k3 hE) rfl (Nat.le_of_ble_eq_true rfl) (Nat.zero_le _) (Nat.zero_le _) ?_
    refine sp_7014 hE hP10  (fun I11 s11 hs11 hP11 hF11 => ?_)
    rw [← hs11, bS_eq] at ho
    have hF11 := hF10.tr hF11
    refine us_goto hR dX2_compute_111 268 (by decide) ?_
    refine us_vret hR dX2_compute_268 rfl ?_
    subst ho
    exact h2 _ hP11 hF11
  · rw [if_neg (i_sw_x (v := 4) (w := 0) c1 (by decide)), if_neg (i_sw_x (v := 4) (w := 1) c1 (by decide)), if_neg (i_sw_x (v := 4) (w := 2) c1 (by decide)), if_neg (i_sw_x (v := 4) (w := 3) c1 (by decide)), if_pos (i_sw (v := 4) c1)] at ho
    refine us_aload_n hR dX2_compute_114 rfl ?_
    refine us_getR hR dX2_compute_115 fR_3_14 (ev_k4 hE) rfl (ev_r_4_0 hE) ?_
    refine us_callV hR dX2_compute_118 (y := 6006) (by decide +kernel) (by decide) (J := i6006) rfl rfl rfl rfl (ev_rk hE (by decide)) rfl (Nat.le_of_ble_eq_true rfl) (Nat.zero_le _) (Nat.zero_le _) ?_
    refine cR_takeLast hE hP 22 (by decide) (fun I12 q12 hs12 hP12 hF12 => ?_)
    rw [← hs12] at ho
    obtain ⟨s12, r12⟩ := q12
    rw [bT_eq] at ho
    have hF12 := hF.tr hF12
    refine us_istore_n hR dX2_compute_121 (Nat.le_of_ble_eq_true rfl) ?_
    refine us_aload_n hR dX2_compute_122 rfl ?_
    refine us_getR hR dX2_compute_123 fR_3_24 (ev_k4 hE) rfl hL.2 ?_
    refine us_aload_n hR dX2_compute_126 rfl ?_
    refine us_getR hR dX2_compute_127 fR_3_14 (ev_k4 hE) rfl (ev_r_4_0 hE) ?_
    refine us_callV hR dX2_compute_130 (y := 6006) (by decide +kernel) (by decide) (J := i6006) rfl rfl rfl rfl (ev_rk hE (by decide)) rfl (Nat.le_of_ble_eq_true rfl) (Nat.zero_le _) (Nat.zero_le _) ?_
    refine cR_takeLast hE hP12 22 (by decide) (fun I13 q13 hs13 hP13 hF13 => ?_)
    rw [← hs13] at ho
    obtain ⟨s13, r13⟩ := q13
    rw [bT_eq] at ho
    have hF13 := hF12.tr hF13
    refine us_iload_n hR dX2_compute_133 rfl ?_
    refine us_callV hR dX2_compute_134 (y := 7012) (by decide +kernel) (by decide) (J := i7012) rfl rfl rfl rfl (ev_k3 hE) rfl (Nat.le_of_ble_eq_true rfl) (Nat.zero_le _) (Nat.zero_le _) ?_
    refine sp_7012 hE hP13  (fun I14 s14 hs14 hP14 hF14 => ?_)
    rw [← hs14, bS_eq] at ho
    have hF14 := hF13.tr hF14
    refine us_goto hR dX2_compute_137 268 (by decide) ?_
    refine us_vret hR dX2_compute_268 rfl ?_
    subst ho
    exact h2 _ hP14 hF14
  · rw [if_neg (i_sw_x (v := 5) (w := 0) c1 (by decide)), if_neg (i_sw_x (v := 5) (w := 1) c1 (by decide)), if_neg (i_sw_x (v := 5) (w := 2) c1 (by decide)), if_neg (i_sw_x (v := 5) (w := 3) c1 (by decide)), if_neg (i_sw_x (v := 5) (w := 4) c1 (by decide)), if_pos (i_sw (v := 5) c1)] at ho
    refine us_aload_n hR dX2_compute_140 rfl ?_
    refine us_getR hR dX2_compute_141 fR_3_14 (ev_k4 hE) rfl (ev_r_4_0 hE) ?_
    refine us_aload_n hR dX2_compute_144 rfl ?_
    refine us_getR hR dX2_compute_145 fR_3_24 (ev_k4 hE) rfl hL.2 ?_
    refine us_callV hR dX2_compute_148 (y := 7010) (by decide +kernel) (by decide) (J := i7010) rfl rfl rfl rfl (ev_k3 hE) rfl (Nat.le_of_ble_eq_true rfl) (Nat.zero_le _) (Nat.zero_le _) ?_
    refine sp_7010 hE hP  (fun I15 q15 hs15 hP15 hF15 => ?_)
    rw [← hs15] at ho
    obtain ⟨s15, r15⟩ := q15
    rw [bT_eq] at ho
    have hF15 := hF.tr hF15
    refine us_callV hR dX2_compute_151 (y := 6004) (by decide +kernel) (by decide) (J := i6004) rfl rfl rfl rfl (ev_rk hE (by decide)) rfl (Nat.le_of_ble_eq_true rfl) (Nat.zero_le _) (Nat.zero_le _) ?_
    refine cR_add hE hP15 22 (by decide) (fun I16 s16 hs16 hP16 hF16 => ?_)
    rw [← hs16, bS_eq] at ho
    have hF16 := hF15.tr hF16
    refine us_goto hR dX2_compute_154 268 (by decide) ?_
    refine us_vret hR dX2_compute_268 rfl ?_
    subst ho
    exact h2 _ hP16 hF16
  · rw [if_neg (i_sw_x (v := 6) (w := 0) c1 (by decide)), if_neg (i_sw_x (v := 6) (w := 1) c1 (by decide)), if_neg (i_sw_x (v := 6) (w := 2) c1 (by decide)), if_neg (i_sw_x (v := 6) (w := 3) c1 (by decide)), if_neg (i_sw_x (v := 6) (w := 4) c1 (by decide)), if_neg (i_sw_x (v := 6) (w := 5) c1 (by decide)), if_pos (i_sw (v := 6) c1)] at ho
    refine us_aload_n hR dX2_compute_157 rfl ?_
    refine us_getR hR dX2_compute_158 fR_3_24 (ev_k4 hE) rfl hL.2 ?_
    refine us_aload_n hR dX2_compute_161 rfl ?_
    refine us_getR hR dX2_compute_162 fR_3_14 (ev_k4 hE) rfl (ev_r_4_0 hE) ?_
    refine us_callV hR dX2_compute_165 (y := 6006) (by decide +kernel) (by decide) (J := i6006) rfl rfl rfl rfl (ev_rk hE (by decide)) rfl (Nat.le_of_ble_eq_true rfl) (Nat.zero_le _) (Nat.zero_le _) ?_
    refine cR_takeLast hE hP 22 (by decide) (fun I17 q17 hs17 hP17 hF17 => ?_)
    rw [← hs17] at ho
    obtain ⟨s17, r17⟩ := q17
    rw [bT_eq] at ho
    have hF17 := hF.tr hF17
    refine us_callV hR dX2_compute_168 (y := 7011) (by decide +kernel) (by decide) (J := i7011) rfl rfl rfl rfl (ev_k3 hE) rfl (Nat.le_of_ble_eq_true rfl) (Nat.zero_le _) (Nat.zero_le _) ?_
    refine sp_7011 hE hP17  (fun I18 s18 hs18 hP18 hF18 => ?_)
    rw [← hs18, bS_eq] at ho
    have hF18 := hF17.tr hF18
    refine us_goto hR dX2_compute_171 268 (by decide) ?_
    refine us_vret hR dX2_compute_268 rfl ?_
    subst ho
    exact h2 _ hP18 hF18
  · rw [if_neg (i_sw_x (v := 7) (w := 0) c1 (by decide)), if_neg (i_sw_x (v := 7) (w := 1) c1 (by decide)), if_neg (i_sw_x (v := 7) (w := 2) c1 (by decide)), if_neg (i_sw_x (v := 7) (w := 3) c1 (by decide)), if_neg (i_sw_x (v := 7) (w := 4) c1 (by decide)), if_neg (i_sw_x (v := 7) (w := 5) c1 (by decide)), if_neg (i_sw_x (v := 7) (w := 6) c1 (by decide)), if_pos (i_sw (v := 7) c1)] at ho
    refine us_aload_n hR dX2_compute_174 rfl ?_
    refine us_getR hR dX2_compute_175 fR_3_14 (ev_k4 hE) rfl (ev_r_4_0 hE) ?_
    refine us_callV hR dX2_compute_178 (y := 6006) (by decide +kernel) (by decide) (J := i6006) rfl rfl rfl rfl (ev_rk hE (by decide)) rfl (Nat.le_of_ble_eq_true rfl) (Nat.zero_le _) (Nat.zero_le _) ?_
    refine cR_takeLast hE hP 22 (by decide) (fun I19 q19 hs19 hP19 hF19 => ?_)
    rw [← hs19] at ho
    obtain ⟨s19, r19⟩ := q19
    rw [bT_eq] at ho
    have hF19 := hF.tr hF19
    refine us_pop hR dX2_compute_181 rfl ?_
    refine us_goto hR dX2_compute_182 268 (by decide) ?_
    refine us_vret hR dX2_compute_268 rfl ?_
    subst ho
    exact h2 _ hP19 hF19
  · rw [if_neg (i_sw_x (v := 8) (w := 0) c1 (by decide)), if_neg (i_sw_x (v := 8) (w := 1) c1 (by decide)), if_neg (i_sw_x (v := 8) (w := 2) c1 (by decide)), if_neg (i_sw_x (v := 8) (w := 3) c1 (by decide)), if_neg (i_sw_x (v := 8) (w := 4) c1 (by decide)), if_neg (i_sw_x (v := 8) (w := 5) c1 (by decide)), if_neg (i_sw_x (v := 8) (w := 6) c1 (by decide)), if_neg (i_sw_x (v := 8) (w := 7) c1 (by decide)), if_pos (i_sw (v := 8) c1)] at ho
    refine us_aload_n hR dX2_compute_185 rfl ?_
    refine us_getR hR dX2_compute_186 fR_3_14 (ev_k4 hE) rfl (ev_r_4_0 hE) ?_
    refine us_aload_n hR dX2_compute_189 rfl ?_
    refine us_getR hR dX2_compute_190 fR_3_24 (ev_k4 hE) rfl hL.2 ?_
    refine us_iload_n hR dX2_compute_193 rfl ?_
    refine us_aload_n hR dX2_compute_194 rfl ?_
    refine us_getR hR dX2_compute_195 fR_3_14 (ev_k4 hE) rfl (ev_r_4_0 hE) ?_
    refine us_callV hR dX2_compute_198 (y := 6006) (by decide +kernel) (by decide) (J := i6006) rfl rfl rfl rfl (ev_rk hE (by decide)) rfl (Nat.le_of_ble_eq_true rfl) (Nat.zero_le _) (Nat.zero_le _) ?_
    refine cR_takeLast hE hP 22 (by decide) (fun I20 q20 hs20 hP20 hF20 => ?_)
    rw [← hs20] at ho
    obtain ⟨s20, r20⟩ := q20
    rw [bT_eq] at ho
    have hF20 := hF.tr hF20
    refine us_callV hR dX2_compute_201 (y := 7017) (by decide +kernel) (by decide) (J := i7017) rfl rfl rfl rfl (ev_k3 hE) rfl (Nat.le_of_ble_eq_true rfl) (Nat.zero_le _) (Nat.zero_le _) ?_
    refine sp_7017 hE hP20  (fun I21 q21 hs21 hP21 hF21 => ?_)
    rw [← hs21] at ho
    obtain ⟨s21, r21⟩ := q21
    rw [bT_eq] at ho
    have hF21 := hF20.tr hF21
    refine us_callV hR dX2_compute_204 (y := 6004) (by decide +kernel) (by decide) (J := i6004) rfl rfl rfl rfl (ev_rk hE (by decide)) rfl (Nat.le_of_ble_eq_true rfl) (Nat.zero_le _) (Nat.zero_le _) ?_
    refine cR_add hE hP21 22 (by decide) (fun I22 s22 hs22 hP22 hF22 => ?_)
    rw [← hs22, bS_eq] at ho
    have hF22 := hF21.tr hF22
    refine us_goto hR dX2_compute_207 268 (by decide) ?_
    refine us_vret hR dX2_compute_268 rfl ?_
    subst ho
    exact h2 _ hP22 hF22
  · rw [if_neg (i_sw_x (v := 9) (w := 0) c1 (by decide)), if_neg (i_sw_x (v := 9) (w := 1) c1 (by decide)), if_neg (i_sw_x (v := 9) (w := 2) c1 (by decide)), if_neg (i_sw_x (v := 9) (w := 3) c1 (by decide)), if_neg (i_sw_x (v := 9) (w := 4) c1 (by decide)), if_neg (i_sw_x (v := 9) (w := 5) c1 (by decide)), if_neg (i_sw_x (v := 9) (w := 6) c1 (by decide)), if_neg (i_sw_x (v := 9) (w := 7) c1 (by decide)), if_neg (i_sw_x (v := 9) (w := 8) c1 (by decide)), if_pos (i_sw (v := 9) c1)] at ho
    refine us_aload_n hR dX2_compute_210 rfl ?_
    refine us_getR hR dX2_compute_211 fR_3_14 (ev_k4 hE) rfl (ev_r_4_0 hE) ?_
    refine us_callV hR dX2_compute_214 (y := 6006) (by decide +kernel) (by decide) (J := i6006) rfl rfl rfl rfl (ev_rk hE (by decide)) rfl (Nat.le_of_ble_eq_true rfl) (Nat.zero_le _) (Nat.zero_le _) ?_
    refine cR_takeLast hE hP 22 (by decide) (fun I23 q23 hs23 hP23 hF23 => ?_)
    rw [← hs23] at ho
    obtain ⟨s23, r23⟩ := q23
    rw [bT_eq] at ho
    have hF23 := hF.tr hF23
    refine us_istore hR dX2_compute_217 (Nat.le_of_ble_eq_true rfl) ?_
    refine us_aload_n hR dX2_compute_219 rfl ?_
    refine us_getR hR dX2_compute_220 fR_3_14 (ev_k4 hE) rfl (ev_r_4_0 hE) ?_
    refine us_aload_n hR dX2_compute_223 rfl ?_
    refine us_getR hR dX2_compute_224 fR_3_24 (ev_k4 hE) rfl hL.2 ?_
    refine us_iload_n hR dX2_compute_227 rfl ?_
    refine us_aload_n hR dX2_compute_228 rfl ?_
    refine us_getR hR dX2_compute_229 fR_3_14 (ev_k4 hE) rfl (ev_r_4_0 hE) ?_
    refine us_callV hR dX2_compute_232 (y := 6006) (by decide +kernel) (by decide) (J := i6006) rfl rfl rfl rfl (ev_rk hE (by decide)) rfl (Nat.le_of_ble_eq_true rfl) (Nat.zero_le _) (Nat.zero_le _) ?_
    refine cR_takeLast hE hP23 22 (by decide) (fun I24 q24 hs24 hP24 hF24 => ?_)
    rw [← hs24] at ho
    obtain ⟨s24, r24⟩ := q24
    rw [bT_eq] at ho
    have hF24 := hF23.tr hF24
    refine us_iload hR dX2_compute_235 rfl ?_
    refine us_callV hR dX2_compute_237 (y := 7018) (by decide +kernel) (by decide) (J := i7018) rfl rfl rfl rfl (ev_k3 hE) rfl (Nat.le_of_ble_eq_true rfl) (Nat.zero_le _) (Nat.zero_le _) ?_
    refine sp_7018 hE hP24  (fun I25 q25 hs25 hP25 hF25 => ?_)
    rw [← hs25] at ho
    obtain ⟨s25, r25⟩ := q25
    rw [bT_eq] at ho
    have hF25 := hF24.tr hF25
    refine us_callV hR dX2_compute_240 (y := 6004) (by decide +kernel) (by decide) (J := i6004) rfl rfl rfl rfl (ev_rk hE (by decide)) rfl (Nat.le_of_ble_eq_true rfl) (Nat.zero_le _) (Nat.zero_le _) ?_
    refine cR_add hE hP25 22 (by decide) (fun I26 s26 hs26 hP26 hF26 => ?_)
    rw [← hs26, bS_eq] at ho
    have hF26 := hF25.tr hF26
    refine us_goto hR dX2_compute_243 268 (by decide) ?_
    refine us_vret hR dX2_compute_268 rfl ?_
    subst ho
    exact h2 _ hP26 hF26
def f_3003_J40  (l1 : Int32) (l2 : Int32) (s : Sx) : Option Sx :=
  bT (f_7009 s) fun s1 r1 =>
  if r1 = 0 then
    some s1
  else
    if l1 = 12 then
      bS (f_3004 1 l2 s1) fun s5 =>
      some s5
    else
      bS (f_3004 0 l2 s1) fun s4 =>
      some s4
def f_3003 (x0 : Int32) (x1 : Int32) (s : Sx) : Option Sx :=
  if x0 = 11 then
    f_3003_J40 x0 x1 s
  else if x0 = 12 then
    f_3003_J40 x0 x1 s
  else if x0 = 13 then
    bS (sV s 11 x1) fun s8 =>
    some s8
  else if x0 = 14 then
    bT (sB s 22 (s.1 22).dropLast, xlast (s.1 22)) fun s9 r9 =>
    if r9 = 0 then
      bS (sV s9 11 x1) fun s12 =>
      some s12
    else
      bS (sV s9 11 (s9.2 11)) fun s11 =>
      some s11
  else if x0 = 15 then
    bOv (f_3005 x1 s) fun s13 =>
    some s13
  else if x0 = 16 then
    bT (f_7016 s) fun s14 r14 =>
    bS (sV s14 11 r14) fun s15 =>
    some s15
  else
    bS (f_7008 0 s) fun s7 =>
    some s7
theorem sp_3003 {d : Nat} {G : ab_G} {ad : Nat → Nat} {I : Nat → Nat → Int32} {s : Sx} {P : ab_Pq} {X : ab_Xq} (hE : EV G ad) (hL : LM G ad) (hP : Rep I ad s) {x0 : Int32} {x1 : Int32}  {o : Sx} (ho : f_3003 x0 x1 s = some o) (h : ∀ I1, Rep I1 ad o → FrE ad I I1 → P (gW G I1) none) : ab_Gam (d + 5) 3003 [.ref (ad 4), .int x0, .int x1] (gW G I) P X := by
  have h2 := h
  have hF : FrE ad I I := FrE_rfl
  unfold f_3003 at ho
  refine ab_enter (I := i3003) rfl (Nat.le_of_ble_eq_true rfl) (fun R hR => ?_)
  have h3003_J40 : ∀ (l1 : Int32) (l2 : Int32)  (s : Sx) (Ia : Nat → Nat → Int32) (bc bs : Nat) (hPa : Rep Ia ad s) (hFa : FrE ad I Ia) (ho : f_3003_J40 l1 l2 s = some o), R 40 [some (.ref (ad 4)), some (.int l1), some (.int l2)] [] (gW G Ia) bc bs := by
    intro l1 l2  s Ia bc bs  hPa hFa ho
    unfold f_3003_J40 at ho
    refine us_aload_n hR dX2_go_40 rfl ?_
    refine us_getR hR dX2_go_41 fR_3_24 (ev_k4 hE) rfl hL.2 ?_
    refine us_callV hR dX2_go_44 (y := 7009) (by decide +kernel) (by decide) (J := i7009) rfl rfl rfl rfl (ev_k3 hE) rfl (Nat.le_of_ble_eq_true rfl) (Nat.zero_le _) (Nat.zero_le _) ?_
    refine sp_7009 hE hPa  (fun I1 q1 hs1 hb1 hP1 hF1 => ?_)
    rw [← hs1] at ho
    obtain ⟨s1, r1⟩ := q1
    rw [bT_eq] at ho
    have hF1 := hFa.tr hF1
    refine us_if_eq hR dX2_go_47 132 (by decide) (fun c2 => ?_) (fun c2 => ?_)
    · rw [if_pos c2] at ho
      refine us_vret hR dX2_go_132 rfl ?_
      cases ho
      exact h2 _ hP1 hF1
    · rw [if_neg c2] at ho
      refine us_aload_n hR dX2_go_50 rfl ?_
      refine us_iload_n hR dX2_go_51 rfl ?_
      refine us_bipushC hR dX2_go_52 (c := 12) (by decide) ?_
      refine us_icmp_ne hR dX2_go_54 61 (by decide) (fun c3 => ?_) (fun c3 => ?_)
      · rw [if_neg c3] at ho
        refine us_iconstC hR dX2_go_61 (c := 0) (by decide) ?_
        refine us_iload_n hR dX2_go_62 rfl ?_
        refine us_callV hR dX2_go_63 (y := 3004) (by decide +kernel) (by decide) (J := i3004) rfl rfl rfl rfl (ev_k4 hE) rfl (Nat.le_of_ble_eq_true rfl) (Nat.zero_le _) (Nat.zero_le _) ?_
        refine sp_3004 hE hL hP1  (fun I4 s4 hs4 hP4 hF4 => ?_)
        rw [← hs4, bS_eq] at ho
        have hF4 := hF1.tr hF4
        refine us_goto hR dX2_go_66 132 (by decide) ?_
        refine us_vret hR dX2_go_132 rfl ?_
        cases ho
        exact h2 _ hP4 hF4
      · rw [if_pos c3] at ho
        refine us_iconstC hR dX2_go_57 (c := 1) (by decide) ?_
        refine us_goto hR dX2_go_58 62 (by decide) ?_
        refine us_iload_n hR dX2_go_62 rfl ?_
        refine us_callV hR dX2_go_63 (y := 3004) (by decide +kernel) (by decide) (J := i3004) rfl rfl rfl rfl (ev_k4 hE) rfl (Nat.le_of_ble_eq_true rfl) (Nat.zero_le _) (Nat.zero_le _) ?_
        refine sp_3004 hE hL hP1  (fun I5 s5 hs5 hP5 hF5 => ?_)
        rw [← hs5, bS_eq] at ho
        have hF5 := hF1.tr hF5
        refine us_goto hR dX2_go_66 132 (by decide) ?_
        refine us_vret hR dX2_go_132 rfl ?_
        cases ho
        exact h2 _ hP5 hF5
  refine us_iload_n hR dX2_go_0 rfl ?_
  refine us_tsw hR dX2_go_1 (fun c6 => ⟨by decide, ?_⟩) (by decide) ⟨fun c6 => ⟨by decide, ?_⟩, fun c6 => ⟨by decide, ?_⟩, fun c6 => ⟨by decide, ?_⟩, fun c6 => ⟨by decide, ?_⟩, fun c6 => ⟨by decide, ?_⟩, fun c6 => ⟨by decide, ?_⟩, trivial⟩
  · rw [if_neg (i_sw_d (v := 11) c6 (by decide)), if_neg (i_sw_d (v := 12) c6 (by decide)), if_neg (i_sw_d (v := 13) c6 (by decide)), if_neg (i_sw_d (v := 14) c6 (by decide)), if_neg (i_sw_d (v := 15) c6 (by decide)), if_neg (i_sw_d (v := 16) c6 (by decide))] at ho
    refine us_aload_n hR dX2_go_124 rfl ?_
    refine us_getR hR dX2_go_125 fR_3_24 (ev_k4 hE) rfl hL.2 ?_
    refine us_iconstC hR dX2_go_128 (c := 0) (by decide) ?_
    refine us_callV hR dX2_go_129 (y := 7008) (by decide +kernel) (by decide) (J := i7008) rfl rfl rfl rfl (ev_k3 hE) rfl (Nat.le_of_ble_eq_true rfl) (Nat.zero_le _) (Nat.zero_le _) ?_
    refine sp_7008 hE hP  (fun I7 s7 hs7 hP7 hF7 => ?_)
    rw [← hs7, bS_eq] at ho
    have hF7 := hF.tr hF7
    refine us_vret hR dX2_go_132 rfl ?_
    cases ho
    exact h2 _ hP7 hF7
  · rw [if_pos (i_sw (v := 11) c6)] at ho
    exact h3003_J40 x0 x1  s I _ _ hP hF ho
  · rw [if_neg (i_sw_x (v := 12) (w := 11) c6 (by decide)), if_pos (i_sw (v := 12) c6)] at ho
    exact h3003_J40 x0 x1  s I _ _ hP hF ho
  · rw [if_neg (i_sw_x (v := 13) (w := 11) c6 (by decide)), if_neg (i_sw_x (v := 13) (w := 12) c6 (by decide)), if_pos (i_sw (v := 13) c6)] at ho
    refine us_aload_n hR dX2_go_69 rfl ?_
    refine us_iload_n hR dX2_go_70 rfl ?_
    refine us_putIx hE hP 11 (by decide) hR dX2_go_71 fR_3_37 (Or.inl rfl) (ev_k4 hE) rfl rfl (fun I8 s8 hs8 hP8 hF8 => ?_)
    rw [← hs8, bS_eq] at ho
    have hF8 := hF.tr hF8
    refine us_goto hR dX2_go_74 132 (by decide) ?_
    refine us_vret hR dX2_go_132 rfl ?_
    cases ho
    exact h2 _ hP8 hF8
  · rw [if_neg (i_sw_x (v := 14) (w := 11) c6 (by decide)), if_neg (i_sw_x (v := 14) (w := 12) c6 (by decide)), if_neg (i_sw_x (v := 14) (w := 13) c6 (by decide)), if_pos (i_sw (v := 14) c6)] at ho
    refine us_aload_n hR dX2_go_77 rfl ?_
    refine us_aload_n hR dX2_go_78 rfl ?_
    refine us_getR hR dX2_go_79 fR_3_14 (ev_k4 hE) rfl (ev_r_4_0 hE) ?_
    refine us_callV hR dX2_go_82 (y := 6006) (by decide +kernel) (by decide) (J := i6006) rfl rfl rfl rfl (ev_rk hE (by decide)) rfl (Nat.le_of_ble_eq_true rfl) (Nat.zero_le _) (Nat.zero_le _) ?_
    refine cR_takeLast hE hP 22 (by decide) (fun I9 q9 hs9 hP9 hF9 => ?_)
    rw [← hs9] at ho
    obtain ⟨s9, r9⟩ := q9
    rw [bT_eq] at ho
    have hF9 := hF.tr hF9
    refine us_if_ne hR dX2_go_85 92 (by decide) (fun c10 => ?_) (fun c10 => ?_)
    · rw [if_neg c10] at ho
      refine us_aload_n hR dX2_go_92 rfl ?_
      refine us_getIx hR dX2_go_93 fR_3_37 (ev_k4 hE) rfl (Rep_v hP9 11 (by decide)) ?_
      refine us_putIx hE hP9 11 (by decide) hR dX2_go_96 fR_3_37 (Or.inl rfl) (ev_k4 hE) rfl rfl (fun I11 s11 hs11 hP11 hF11 => ?_)
      rw [← hs11, bS_eq] at ho
      have hF11 := hF9.tr hF11
      refine us_goto hR dX2_go_99 132 (by decide) ?_
      refine us_vret hR dX2_go_132 rfl ?_
      cases ho
      exact h2 _ hP11 hF11
    · rw [if_pos c10] at ho
      refine us_iload_n hR dX2_go_88 rfl ?_
      refine us_goto hR dX2_go_89 96 (by decide) ?_
      refine us_putIx hE hP9 11 (by decide) hR dX2_go_96 fR_3_37 (Or.inl rfl) (ev_k4 hE) rfl rfl (fun I12 s12 hs12 hP12 hF12 => ?_)
      rw [← hs12, bS_eq] at ho
      have hF12 := hF9.tr hF12
      refine us_goto hR dX2_go_99 132 (by decide) ?_
      refine us_vret hR dX2_go_132 rfl ?_
      cases ho
      exact h2 _ hP12 hF12
  · rw [if_neg (i_sw_x (v := 15) (w := 11) c6 (by decide)), if_neg (i_sw_x (v := 15) (w := 12) c6 (by decide)), if_neg (i_sw_x (v := 15) (w := 13) c6 (by decide)), if_neg (i_sw_x (v := 15) (w := 14) c6 (by decide)), if_pos (i_sw (v := 15) c6)] at ho
    refine us_aload_n hR dX2_go_102 rfl ?_
    refine us_iload_n hR dX2_go_103 rfl ?_
    refine us_callV hR dX2_go_104 (y := 3005) (by decide +kernel) (by decide) (J := i3005) rfl rfl rfl rfl (ev_k4 hE) rfl (Nat.le_of_ble_eq_true rfl) (Nat.zero_le _) (Nat.zero_le _) ?_
    obtain ⟨s13, hs13⟩ := bOv_ex ho
    replace ho := bOv_go ho hs13
    refine sp_3005 hE hL hP  hs13 (fun I13 hP13 hF13 => ?_)
    have hF13 := hF.tr hF13
    refine us_goto hR dX2_go_107 132 (by decide) ?_
    refine us_vret hR dX2_go_132 rfl ?_
    cases ho
    exact h2 _ hP13 hF13
  · rw [if_neg (i_sw_x (v := 16) (w := 11) c6 (by decide)), if_neg (i_sw_x (v := 16) (w := 12) c6 (by decide)), if_neg (i_sw_x (v := 16) (w := 13) c6 (by decide)), if_neg (i_sw_x (v := 16) (w := 14) c6 (by decide)), if_neg (i_sw_x (v := 16) (w := 15) c6 (by decide)), if_pos (i_sw (v := 16) c6)] at ho
    refine us_aload_n hR dX2_go_110 rfl ?_
    refine us_aload_n hR dX2_go_111 rfl ?_
    refine us_getR hR dX2_go_112 fR_3_24 (ev_k4 hE) rfl hL.2 ?_
    refine us_callV hR dX2_go_115 (y := 7016) (by decide +kernel) (by decide) (J := i7016) rfl rfl rfl rfl (ev_k3 hE) rfl (Nat.le_of_ble_eq_true rfl) (Nat.zero_le _) (Nat.zero_le _) ?_
    refine sp_7016 hE hP  (fun I14 q14 hs14 hP14 hF14 => ?_)
    rw [← hs14] at ho
    obtain ⟨s14, r14⟩ := q14
    rw [bT_eq] at ho
    have hF14 := hF.tr hF14
    refine us_putIx hE hP14 11 (by decide) hR dX2_go_118 fR_3_37 (Or.inl rfl) (ev_k4 hE) rfl rfl (fun I15 s15 hs15 hP15 hF15 => ?_)
    rw [← hs15, bS_eq] at ho
    have hF15 := hF14.tr hF15
    refine us_goto hR dX2_go_121 132 (by decide) ?_
    refine us_vret hR dX2_go_132 rfl ?_
    cases ho
    exact h2 _ hP15 hF15
def f_3001_L37  : Nat → Int32 → Int32 → Int32 → Int32 → Sx → Option Sx
  | 0, _, _, _, _, _ => none
  | n + 1, l3, l4, l5, l6, s =>
    if 1000000 ≤ l6 then
      some s
    else
      if (f_7002 s) = 0 then
        some s
      else
        bS (sV s 11 ((s.2 11) + 1)) fun s6 =>
        if 11 ≤ (f_4007 (s.2 11) s) then
          bOv (f_3003 (f_4007 (s.2 11) s) (f_4008 (s.2 11) s) s6) fun s8 =>
          f_3001_L37 n l3 l4 l5 (l6 + 1) s8
        else
          bS (f_3002 (f_4007 (s.2 11) s) (f_4008 (s.2 11) s) s6) fun s9 =>
          f_3001_L37 n l3 l4 l5 (l6 + 1) s9
def f_3001 (x2 : Int32) (x3 : Int32) (x4 : Int32) (s : Sx) : Option Sx :=
  bS (f_7001 x2 x3 x4 s) fun s10 =>
  bS (sB s10 22 []) fun s11 =>
  bS (sV s11 11 0) fun s12 =>
  f_3001_L37 1000100 x2 x3 x4 0 s12
theorem sp_3001 {d : Nat} {G : ab_G} {ad : Nat → Nat} {I : Nat → Nat → Int32} {s : Sx} {P : ab_Pq} {X : ab_Xq} (hE0 : EV G ad) (hP : Rep I ad s) {x2 : Int32} {x3 : Int32} {x4 : Int32}  {o : Sx} (ho : f_3001 x2 x3 x4 s = some o) (h : ∀ I1, Rep I1 ad o → FrE ad I I1 → P (gW (sR (sR G (ad 4) 1 (some (ad 0))) (ad 4) 2 (some (ad 3))) I1) none) : ab_Gam (d + 6) 3001 [.ref (ad 4), .ref (ad 0), .ref (ad 3), .int x2, .int x3, .int x4] (gW G I) P X := by
  have h2 := h
  have hE1 : EV (sR G (ad 4) 1 (some (ad 0))) ad := EV_sR hE0 (by decide) (by decide)
  have hE : EV (sR (sR G (ad 4) 1 (some (ad 0))) (ad 4) 2 (some (ad 3))) ad := EV_sR hE1 (by decide) (by decide)
  have hL : LM (sR (sR G (ad 4) 1 (some (ad 0))) (ad 4) 2 (some (ad 3))) ad := by unfold LM; refine ⟨?_, ?_⟩ <;> simp [gR_sR, u2]
  have hF : FrE ad I I := FrE_rfl
  unfold f_3001 at ho
  refine ab_enter (I := i3001) rfl (Nat.le_of_ble_eq_true rfl) (fun R hR => ?_)
  have h3001_L37 : ∀ (n : Nat) (l3 : Int32) (l4 : Int32) (l5 : Int32) (l6 : Int32) (w7 : Option Value) (w8 : Option Value) (s : Sx) (Ia : Nat → Nat → Int32) (bc bs : Nat) (hPa : Rep Ia ad s) (hFa : FrE ad I Ia) (ho : f_3001_L37 n l3 l4 l5 l6 s = some o), R 37 [some (.ref (ad 4)), some (.ref (ad 0)), some (.ref (ad 3)), some (.int l3), some (.int l4), some (.int l5), some (.int l6), w7, w8] [] (gW (sR (sR G (ad 4) 1 (some (ad 0))) (ad 4) 2 (some (ad 3))) Ia) bc bs := by
    intro n
    induction n with
    | zero => intro l3 l4 l5 l6 w7 w8 s Ia bc bs  hPa hFa ho; exact absurd ho (by intro hc; cases hc)
    | succ n37 ih37 =>
      intro l3 l4 l5 l6 w7 w8 s Ia bc bs  hPa hFa ho
      rw [f_3001_L37] at ho
      refine us_iload hR dX2_run_37 rfl ?_
      refine us_ldc hR dX2_run_39 (v := 1000000) (by decide +kernel) ?_
      refine us_icmp_ge hR dX2_run_41 122 (by decide) (fun c1 => ?_) (fun c1 => ?_)
      · rw [if_pos c1] at ho
        refine us_vret hR dX2_run_122 rfl ?_
        cases ho
        exact h2 _ hPa hFa
      · rw [if_neg c1] at ho
        refine us_aload_n hR dX2_run_44 rfl ?_
        refine us_getR hR dX2_run_45 fR_3_24 (ev_k4 hE) rfl hL.2 ?_
        refine us_callV hR dX2_run_48 (y := 7002) (by decide +kernel) (by decide) (J := i7002) rfl rfl rfl rfl (ev_k3 hE) rfl (Nat.le_of_ble_eq_true rfl) (Nat.zero_le _) (Nat.zero_le _) ?_
        refine sp_7002 hE hPa  (fun hb2 => ?_)
        refine us_if_eq hR dX2_run_51 122 (by decide) (fun c3 => ?_) (fun c3 => ?_)
        · rw [if_pos c3] at ho
          refine us_vret hR dX2_run_122 rfl ?_
          cases ho
          exact h2 _ hPa hFa
        · rw [if_neg c3] at ho
          refine us_aload_n hR dX2_run_54 rfl ?_
          refine us_getR hR dX2_run_55 fR_3_20 (ev_k4 hE) rfl hL.1 ?_
          refine us_aload_n hR dX2_run_58 rfl ?_
          refine us_getIx hR dX2_run_59 fR_3_37 (ev_k4 hE) rfl (Rep_v hPa 11 (by decide)) ?_
          refine us_callV hR dX2_run_62 (y := 4007) (by decide +kernel) (by decide) (J := i4007) rfl rfl rfl rfl (ev_k0 hE) rfl (Nat.le_of_ble_eq_true rfl) (Nat.zero_le _) (Nat.zero_le _) ?_
          refine sp_4007 hE hPa  ?_
          refine us_istore hR dX2_run_65 (Nat.le_of_ble_eq_true rfl) ?_
          refine us_aload_n hR dX2_run_67 rfl ?_
          refine us_getR hR dX2_run_68 fR_3_20 (ev_k4 hE) rfl hL.1 ?_
          refine us_aload_n hR dX2_run_71 rfl ?_
          refine us_getIx hR dX2_run_72 fR_3_37 (ev_k4 hE) rfl (Rep_v hPa 11 (by decide)) ?_
          refine us_callV hR dX2_run_75 (y := 4008) (by decide +kernel) (by decide) (J := i4008) rfl rfl rfl rfl (ev_k0 hE) rfl (Nat.le_of_ble_eq_true rfl) (Nat.zero_le _) (Nat.zero_le _) ?_
          refine sp_4008 hE hPa  ?_
          refine us_istore hR dX2_run_78 (Nat.le_of_ble_eq_true rfl) ?_
          refine us_aload_n hR dX2_run_80 rfl ?_
          refine us_dup hR dX2_run_81 rfl ?_
          refine us_getIx hR dX2_run_82 fR_3_37 (ev_k4 hE) rfl (Rep_v hPa 11 (by decide)) ?_
          refine us_iconstC hR dX2_run_85 (c := 1) (by decide) ?_
          refine us_iadd hR dX2_run_86 ?_
          refine us_putIx hE hPa 11 (by decide) hR dX2_run_87 fR_3_37 (Or.inl rfl) (ev_k4 hE) rfl rfl (fun I6 s6 hs6 hP6 hF6 => ?_)
          rw [← hs6, bS_eq] at ho
          have hF6 := hFa.tr hF6
          refine us_iload hR dX2_run_90 rfl ?_
          refine us_bipushC hR dX2_run_92 (c := 11) (by decide) ?_
          refine us_icmp_ge hR dX2_run_94 108 (by decide) (fun c7 => ?_) (fun c7 => ?_)
          · rw [if_pos c7] at ho
            refine us_aload_n hR dX2_run_108 rfl ?_
            refine us_iload hR dX2_run_109 rfl ?_
            refine us_iload hR dX2_run_111 rfl ?_
            refine us_callV hR dX2_run_113 (y := 3003) (by decide +kernel) (by decide) (J := i3003) rfl rfl rfl rfl (ev_k4 hE) rfl (Nat.le_of_ble_eq_true rfl) (Nat.zero_le _) (Nat.zero_le _) ?_
            obtain ⟨s8, hs8⟩ := bOv_ex ho
            replace ho := bOv_go ho hs8
            refine sp_3003 hE hL hP6  hs8 (fun I8 hP8 hF8 => ?_)
            have hF8 := hF6.tr hF8
            refine us_iincC hR dX2_run_116 rfl (Nat.le_of_ble_eq_true rfl) (c := 1) (by decide) ?_
            refine us_goto hR dX2_run_119 37 (by decide) ?_
            exact ih37 l3 l4 l5 (l6 + 1) _ _ s8 I8 _ _ hP8 hF8 ho
          · rw [if_neg c7] at ho
            refine us_aload_n hR dX2_run_97 rfl ?_
            refine us_iload hR dX2_run_98 rfl ?_
            refine us_iload hR dX2_run_100 rfl ?_
            refine us_callV hR dX2_run_102 (y := 3002) (by decide +kernel) (by decide) (J := i3002) rfl rfl rfl rfl (ev_k4 hE) rfl (Nat.le_of_ble_eq_true rfl) (Nat.zero_le _) (Nat.zero_le _) ?_
            refine sp_3002 hE hL hP6  (fun I9 s9 hs9 hP9 hF9 => ?_)
            rw [← hs9, bS_eq] at ho
            have hF9 := hF6.tr hF9
            refine us_goto hR dX2_run_105 116 (by decide) ?_
            refine us_iincC hR dX2_run_116 rfl (Nat.le_of_ble_eq_true rfl) (c := 1) (by decide) ?_
            refine us_goto hR dX2_run_119 37 (by decide) ?_
            exact ih37 l3 l4 l5 (l6 + 1) _ _ s9 I9 _ _ hP9 hF9 ho
  refine us_aload_n hR dX2_run_0 rfl ?_
  refine us_aload_n hR dX2_run_1 rfl ?_
  refine us_putR hR dX2_run_2 fR_3_20 (Or.inl rfl) (ev_k4 hE0) rfl ?_
  show R _ _ _ (gW (sR G (ad 4) 1 (some (ad 0))) I) _ _
  refine us_aload_n hR dX2_run_5 rfl ?_
  refine us_aload_n hR dX2_run_6 rfl ?_
  refine us_putR hR dX2_run_7 fR_3_24 (Or.inl rfl) (ev_k4 hE1) rfl ?_
  show R _ _ _ (gW (sR (sR G (ad 4) 1 (some (ad 0))) (ad 4) 2 (some (ad 3))) I) _ _
  refine us_aload_n hR dX2_run_10 rfl ?_
  refine us_getR hR dX2_run_11 fR_3_24 (ev_k4 hE) rfl hL.2 ?_
  refine us_iload_n hR dX2_run_14 rfl ?_
  refine us_iload hR dX2_run_15 rfl ?_
  refine us_iload hR dX2_run_17 rfl ?_
  refine us_callV hR dX2_run_19 (y := 7001) (by decide +kernel) (by decide) (J := i7001) rfl rfl rfl rfl (ev_k3 hE) rfl (Nat.le_of_ble_eq_true rfl) (Nat.zero_le _) (Nat.zero_le _) ?_
  refine sp_7001 hE hP  (fun I10 s10 hs10 hP10 hF10 => ?_)
  rw [← hs10, bS_eq] at ho
  have hF10 := hF.tr hF10
  refine us_aload_n hR dX2_run_22 rfl ?_
  refine us_getR hR dX2_run_23 fR_3_14 (ev_k4 hE) rfl (ev_r_4_0 hE) ?_
  refine us_callV hR dX2_run_26 (y := 6008) (by decide +kernel) (by decide) (J := i6008) rfl rfl rfl rfl (ev_rk hE (by decide)) rfl (Nat.le_of_ble_eq_true rfl) (Nat.zero_le _) (Nat.zero_le _) ?_
  refine cR_empty hE hP10 22 (by decide) (fun I11 s11 hs11 hP11 hF11 => ?_)
  rw [← hs11, bS_eq] at ho
  have hF11 := hF10.tr hF11
  refine us_aload_n hR dX2_run_29 rfl ?_
  refine us_iconstC hR dX2_run_30 (c := 0) (by decide) ?_
  refine us_putIx hE hP11 11 (by decide) hR dX2_run_31 fR_3_37 (Or.inl rfl) (ev_k4 hE) rfl rfl (fun I12 s12 hs12 hP12 hF12 => ?_)
  rw [← hs12, bS_eq] at ho
  have hF12 := hF11.tr hF12
  refine us_iconstC hR dX2_run_34 (c := 0) (by decide) ?_
  refine us_istore hR dX2_run_35 (Nat.le_of_ble_eq_true rfl) ?_
  exact h3001_L37 _ x2 x3 x4 0 _ _ s12 I12 _ _ hP12 hF12 ho
