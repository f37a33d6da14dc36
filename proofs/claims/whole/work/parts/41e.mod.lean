/-! shadows: the reference -/
def f_12095 (x0 : Int32) (x1 : Int32) (s : Mx) : Option (Mx × Int32) :=
  bP (f_12094 x0 x1 s) fun r1 =>
  bT (f_12003 r1 1 1 s) fun s2 r2 =>
  if r2 = 0 then
    some (s2, 0)
  else
    gd (vi ((8 * x0) + x1) 240) <|
    if (mg s2 51 ((8 * x0) + x1)) = 0 then
      some (s2, 0)
    else
      some (s2, 1)
theorem sp_12095 {d : Nat} {G : ab_G} {ad : Nat → Nat} {I : Nat → Nat → Int32} {s : Mx} {P : ab_Pq} {X : ab_Xq} (hE : EM G ad) (hP : RepM I ad s) {x0 : Int32} {x1 : Int32}  {o : Mx × Int32} (ho : f_12095 x0 x1 s = some o) (h : ∀ I1, (o.2 = 0 ∨ o.2 = 1) → RepM I1 ad o.1 → FrM ad I I1 → P (gW G I1) (some (.int o.2))) : ab_Gam (d + 4) 12095 [.ref (ad 0), .int x0, .int x1] (gW G I) P X := by
  have h2 := h
  have hF : FrM ad I I := FrM_rfl
  unfold f_12095 at ho
  refine ab_enter (I := i12095) rfl (Nat.le_of_ble_eq_true rfl) (fun R hR => ?_)
  refine us_aload_n hR dX11_passes_0 rfl ?_
  refine us_aload_n hR dX11_passes_1 rfl ?_
  refine us_iload_n hR dX11_passes_2 rfl ?_
  refine us_iload_n hR dX11_passes_3 rfl ?_
  refine us_callV hR dX11_passes_4 (y := 12094) (by decide +kernel) (by decide) (J := i12094) rfl rfl rfl rfl hE.2.1 rfl (Nat.le_of_ble_eq_true rfl) (Nat.zero_le _) (Nat.zero_le _) ?_
  obtain ⟨r1, hr1⟩ := bP_ex ho
  replace ho := bP_go ho hr1
  refine sp_12094 hE hP  hr1 (fun hb1 => ?_)
  refine us_iconstC hR dX11_passes_7 (c := 1) (by decide) ?_
  refine us_iconstC hR dX11_passes_8 (c := 1) (by decide) ?_
  refine us_callV hR dX11_passes_9 (y := 12003) (by decide +kernel) (by decide) (J := i12003) rfl rfl rfl rfl hE.2.1 rfl (Nat.le_of_ble_eq_true rfl) (Nat.zero_le _) (Nat.zero_le _) ?_
  refine sp_12003 hE hP  (fun I2 q2 hs2 hb2 hP2 hF2 => ?_)
  rw [← hs2] at ho
  obtain ⟨s2, r2⟩ := q2
  rw [bT_eq] at ho
  have hF2 := hF.tr hF2
  refine us_if_eq hR dX11_passes_12 33 (by decide) (fun c3 => ?_) (fun c3 => ?_)
  · rw [if_pos c3] at ho
    refine us_iconstC hR dX11_passes_33 (c := 0) (by decide) ?_
    refine us_iret hR dX11_passes_34 rfl (nar01 (Or.inl rfl)) ?_
    cases ho
    exact h2 _ (Or.inl rfl) hP2 hF2
  · rw [if_neg c3] at ho
    refine us_aload_n hR dX11_passes_15 rfl ?_
    refine us_getR hR dX11_passes_16 fR_12_162 hE.2.1 rfl (em_r_81 hE) ?_
    refine us_bipushC hR dX11_passes_19 (c := 8) (by decide) ?_
    refine us_iload_n hR dX11_passes_21 rfl ?_
    refine us_imul hR dX11_passes_22 ?_
    refine us_iload_n hR dX11_passes_23 rfl ?_
    refine us_iadd hR dX11_passes_24 ?_
    have hg := gd_c ho
    rw [gd_e hg] at ho
    refine us_baloadM hE hP2 (em_q_81 hE) hR dX11_passes_25 hg ?_
    refine us_if_eq hR dX11_passes_26 33 (by decide) (fun c4 => ?_) (fun c4 => ?_)
    · rw [if_pos c4] at ho
      refine us_iconstC hR dX11_passes_33 (c := 0) (by decide) ?_
      refine us_iret hR dX11_passes_34 rfl (nar01 (Or.inl rfl)) ?_
      cases ho
      exact h2 _ (Or.inl rfl) hP2 hF2
    · rw [if_neg c4] at ho
      refine us_iconstC hR dX11_passes_29 (c := 1) (by decide) ?_
      refine us_goto hR dX11_passes_30 34 (by decide) ?_
      refine us_iret hR dX11_passes_34 rfl (nar01 (Or.inr rfl)) ?_
      cases ho
      exact h2 _ (Or.inr rfl) hP2 hF2
def f_12096 (x0 : Int32) (x1 : Int32) (s : Mx) : Option (Mx × Int32) :=
  bP (f_12094 x0 x1 s) fun r1 =>
  bT (f_12003 r1 1 1 s) fun s2 r2 =>
  if r2 = 0 then
    some (s2, 0)
  else
    gd (vi ((8 * x0) + x1) 240) <|
    some (s2, (mg s2 50 ((8 * x0) + x1)))
theorem sp_12096 {d : Nat} {G : ab_G} {ad : Nat → Nat} {I : Nat → Nat → Int32} {s : Mx} {P : ab_Pq} {X : ab_Xq} (hE : EM G ad) (hP : RepM I ad s) {x0 : Int32} {x1 : Int32}  {o : Mx × Int32} (ho : f_12096 x0 x1 s = some o) (h : ∀ I1, RepM I1 ad o.1 → FrM ad I I1 → P (gW G I1) (some (.int o.2))) : ab_Gam (d + 4) 12096 [.ref (ad 0), .int x0, .int x1] (gW G I) P X := by
  have h2 := h
  have hF : FrM ad I I := FrM_rfl
  unfold f_12096 at ho
  refine ab_enter (I := i12096) rfl (Nat.le_of_ble_eq_true rfl) (fun R hR => ?_)
  refine us_aload_n hR dX11_endOf_0 rfl ?_
  refine us_aload_n hR dX11_endOf_1 rfl ?_
  refine us_iload_n hR dX11_endOf_2 rfl ?_
  refine us_iload_n hR dX11_endOf_3 rfl ?_
  refine us_callV hR dX11_endOf_4 (y := 12094) (by decide +kernel) (by decide) (J := i12094) rfl rfl rfl rfl hE.2.1 rfl (Nat.le_of_ble_eq_true rfl) (Nat.zero_le _) (Nat.zero_le _) ?_
  obtain ⟨r1, hr1⟩ := bP_ex ho
  replace ho := bP_go ho hr1
  refine sp_12094 hE hP  hr1 (fun hb1 => ?_)
  refine us_iconstC hR dX11_endOf_7 (c := 1) (by decide) ?_
  refine us_iconstC hR dX11_endOf_8 (c := 1) (by decide) ?_
  refine us_callV hR dX11_endOf_9 (y := 12003) (by decide +kernel) (by decide) (J := i12003) rfl rfl rfl rfl hE.2.1 rfl (Nat.le_of_ble_eq_true rfl) (Nat.zero_le _) (Nat.zero_le _) ?_
  refine sp_12003 hE hP  (fun I2 q2 hs2 hb2 hP2 hF2 => ?_)
  rw [← hs2] at ho
  obtain ⟨s2, r2⟩ := q2
  rw [bT_eq] at ho
  have hF2 := hF.tr hF2
  refine us_if_eq hR dX11_endOf_12 29 (by decide) (fun c3 => ?_) (fun c3 => ?_)
  · rw [if_pos c3] at ho
    refine us_iconstC hR dX11_endOf_29 (c := 0) (by decide) ?_
    refine us_iret hR dX11_endOf_30 rfl rfl ?_
    cases ho
    exact h2 _ hP2 hF2
  · rw [if_neg c3] at ho
    refine us_aload_n hR dX11_endOf_15 rfl ?_
    refine us_getR hR dX11_endOf_16 fR_12_159 hE.2.1 rfl (em_r_80 hE) ?_
    refine us_bipushC hR dX11_endOf_19 (c := 8) (by decide) ?_
    refine us_iload_n hR dX11_endOf_21 rfl ?_
    refine us_imul hR dX11_endOf_22 ?_
    refine us_iload_n hR dX11_endOf_23 rfl ?_
    refine us_iadd hR dX11_endOf_24 ?_
    have hg := gd_c ho
    rw [gd_e hg] at ho
    refine us_ialoadM hE hP2 (em_q_80 hE) hR dX11_endOf_25 hg ?_
    refine us_goto hR dX11_endOf_26 30 (by decide) ?_
    refine us_iret hR dX11_endOf_30 rfl rfl ?_
    cases ho
    exact h2 _ hP2 hF2
def f_12099 (x0 : Int32) (s : Mx) : Option (Mx × Int32) :=
  bT (f_12003 (f_12090 x0 s) 1 1 s) fun s2 r2 =>
  if r2 = 0 then
    some (s2, 0)
  else
    bP (f_12097 x0 s2) fun r4 =>
    some (s2, r4)
theorem sp_12099 {d : Nat} {G : ab_G} {ad : Nat → Nat} {I : Nat → Nat → Int32} {s : Mx} {P : ab_Pq} {X : ab_Xq} (hE : EM G ad) (hP : RepM I ad s) {x0 : Int32}  {o : Mx × Int32} (ho : f_12099 x0 s = some o) (h : ∀ I1, RepM I1 ad o.1 → FrM ad I I1 → P (gW G I1) (some (.int o.2))) : ab_Gam (d + 3) 12099 [.ref (ad 0), .int x0] (gW G I) P X := by
  have h2 := h
  have hF : FrM ad I I := FrM_rfl
  unfold f_12099 at ho
  refine ab_enter (I := i12099) rfl (Nat.le_of_ble_eq_true rfl) (fun R hR => ?_)
  refine us_aload_n hR dX11_points_0 rfl ?_
  refine us_aload_n hR dX11_points_1 rfl ?_
  refine us_iload_n hR dX11_points_2 rfl ?_
  refine us_callV hR dX11_points_3 (y := 12090) (by decide +kernel) (by decide) (J := i12090) rfl rfl rfl rfl hE.2.1 rfl (Nat.le_of_ble_eq_true rfl) (Nat.zero_le _) (Nat.zero_le _) ?_
  refine sp_12090 hE hP  (fun hb1 => ?_)
  refine us_iconstC hR dX11_points_6 (c := 1) (by decide) ?_
  refine us_iconstC hR dX11_points_7 (c := 1) (by decide) ?_
  refine us_callV hR dX11_points_8 (y := 12003) (by decide +kernel) (by decide) (J := i12003) rfl rfl rfl rfl hE.2.1 rfl (Nat.le_of_ble_eq_true rfl) (Nat.zero_le _) (Nat.zero_le _) ?_
  refine sp_12003 hE hP  (fun I2 q2 hs2 hb2 hP2 hF2 => ?_)
  rw [← hs2] at ho
  obtain ⟨s2, r2⟩ := q2
  rw [bT_eq] at ho
  have hF2 := hF.tr hF2
  refine us_if_eq hR dX11_points_11 22 (by decide) (fun c3 => ?_) (fun c3 => ?_)
  · rw [if_pos c3] at ho
    refine us_iconstC hR dX11_points_22 (c := 0) (by decide) ?_
    refine us_iret hR dX11_points_23 rfl rfl ?_
    cases ho
    exact h2 _ hP2 hF2
  · rw [if_neg c3] at ho
    refine us_aload_n hR dX11_points_14 rfl ?_
    refine us_iload_n hR dX11_points_15 rfl ?_
    refine us_callV hR dX11_points_16 (y := 12097) (by decide +kernel) (by decide) (J := i12097) rfl rfl rfl rfl hE.2.1 rfl (Nat.le_of_ble_eq_true rfl) (Nat.zero_le _) (Nat.zero_le _) ?_
    obtain ⟨r4, hr4⟩ := bP_ex ho
    replace ho := bP_go ho hr4
    refine sp_12097 hE hP2  hr4 ?_
    refine us_goto hR dX11_points_19 23 (by decide) ?_
    refine us_iret hR dX11_points_23 rfl rfl ?_
    cases ho
    exact h2 _ hP2 hF2
def f_12100 (x0 : Int32) (s : Mx) : Option (Mx × Int32) :=
  bT (f_12003 (f_12090 x0 s) 1 1 s) fun s2 r2 =>
  if r2 = 0 then
    some (s2, 0)
  else
    bP (f_12098 x0 s2) fun r4 =>
    some (s2, r4)
theorem sp_12100 {d : Nat} {G : ab_G} {ad : Nat → Nat} {I : Nat → Nat → Int32} {s : Mx} {P : ab_Pq} {X : ab_Xq} (hE : EM G ad) (hP : RepM I ad s) {x0 : Int32}  {o : Mx × Int32} (ho : f_12100 x0 s = some o) (h : ∀ I1, RepM I1 ad o.1 → FrM ad I I1 → P (gW G I1) (some (.int o.2))) : ab_Gam (d + 3) 12100 [.ref (ad 0), .int x0] (gW G I) P X := by
  have h2 := h
  have hF : FrM ad I I := FrM_rfl
  unfold f_12100 at ho
  refine ab_enter (I := i12100) rfl (Nat.le_of_ble_eq_true rfl) (fun R hR => ?_)
  refine us_aload_n hR dX11_mark__0 rfl ?_
  refine us_aload_n hR dX11_mark__1 rfl ?_
  refine us_iload_n hR dX11_mark__2 rfl ?_
  refine us_callV hR dX11_mark__3 (y := 12090) (by decide +kernel) (by decide) (J := i12090) rfl rfl rfl rfl hE.2.1 rfl (Nat.le_of_ble_eq_true rfl) (Nat.zero_le _) (Nat.zero_le _) ?_
  refine sp_12090 hE hP  (fun hb1 => ?_)
  refine us_iconstC hR dX11_mark__6 (c := 1) (by decide) ?_
  refine us_iconstC hR dX11_mark__7 (c := 1) (by decide) ?_
  refine us_callV hR dX11_mark__8 (y := 12003) (by decide +kernel) (by decide) (J := i12003) rfl rfl rfl rfl hE.2.1 rfl (Nat.le_of_ble_eq_true rfl) (Nat.zero_le _) (Nat.zero_le _) ?_
  refine sp_12003 hE hP  (fun I2 q2 hs2 hb2 hP2 hF2 => ?_)
  rw [← hs2] at ho
  obtain ⟨s2, r2⟩ := q2
  rw [bT_eq] at ho
  have hF2 := hF.tr hF2
  refine us_if_eq hR dX11_mark__11 22 (by decide) (fun c3 => ?_) (fun c3 => ?_)
  · rw [if_pos c3] at ho
    refine us_iconstC hR dX11_mark__22 (c := 0) (by decide) ?_
    refine us_iret hR dX11_mark__23 rfl rfl ?_
    cases ho
    exact h2 _ hP2 hF2
  · rw [if_neg c3] at ho
    refine us_aload_n hR dX11_mark__14 rfl ?_
    refine us_iload_n hR dX11_mark__15 rfl ?_
    refine us_callV hR dX11_mark__16 (y := 12098) (by decide +kernel) (by decide) (J := i12098) rfl rfl rfl rfl hE.2.1 rfl (Nat.le_of_ble_eq_true rfl) (Nat.zero_le _) (Nat.zero_le _) ?_
    obtain ⟨r4, hr4⟩ := bP_ex ho
    replace ho := bP_go ho hr4
    refine sp_12098 hE hP2  hr4 ?_
    refine us_goto hR dX11_mark__19 23 (by decide) ?_
    refine us_iret hR dX11_mark__23 rfl rfl ?_
    cases ho
    exact h2 _ hP2 hF2
def f_12101 (x0 : Int32) (s : Mx) : Option (Mx × Int32) :=
  bO (f_12100 x0 s) fun s1 r1 =>
  some (s1, r1)
theorem sp_12101 {d : Nat} {G : ab_G} {ad : Nat → Nat} {I : Nat → Nat → Int32} {s : Mx} {P : ab_Pq} {X : ab_Xq} (hE : EM G ad) (hP : RepM I ad s) {x0 : Int32}  {o : Mx × Int32} (ho : f_12101 x0 s = some o) (h : ∀ I1, RepM I1 ad o.1 → FrM ad I I1 → P (gW G I1) (some (.int o.2))) : ab_Gam (d + 4) 12101 [.ref (ad 0), .int x0] (gW G I) P X := by
  have h2 := h
  have hF : FrM ad I I := FrM_rfl
  unfold f_12101 at ho
  refine ab_enter (I := i12101) rfl (Nat.le_of_ble_eq_true rfl) (fun R hR => ?_)
  refine us_aload_n hR dX11_markAnew_0 rfl ?_
  refine us_iload_n hR dX11_markAnew_1 rfl ?_
  refine us_callV hR dX11_markAnew_2 (y := 12100) (by decide +kernel) (by decide) (J := i12100) rfl rfl rfl rfl hE.2.1 rfl (Nat.le_of_ble_eq_true rfl) (Nat.zero_le _) (Nat.zero_le _) ?_
  obtain ⟨q1, hs1⟩ := bO_ex ho
  obtain ⟨s1, r1⟩ := q1
  replace ho := bO_go ho hs1
  refine sp_12100 hE hP  hs1 (fun I1 hP1 hF1 => ?_)
  have hF1 := hF.tr hF1
  refine us_iret hR dX11_markAnew_5 rfl rfl ?_
  cases ho
  exact h2 _ hP1 hF1
def f_12102_J72  (k36 : Int32 → Int32 → Int32 → Int32 → Mx → Option (Mx × Int32)) (l1 : Int32) (l2 : Int32) (l3 : Int32) (l4 : Int32) (k0 : Int32) (s : Mx) : Option (Mx × Int32) :=
  if k0 = 0 then
    k36 l1 l2 l3 (l4 + 1) s
  else
    bP (f_12098 l4 s) fun r2 =>
    if r2 ≤ l3 then
      k36 l1 l2 l3 (l4 + 1) s
    else
      bP (f_12098 l4 s) fun r4 =>
      k36 l1 l2 r4 (l4 + 1) s
def f_12102_J71  (k36 : Int32 → Int32 → Int32 → Int32 → Mx → Option (Mx × Int32)) (l1 : Int32) (l2 : Int32) (l3 : Int32) (l4 : Int32) (s : Mx) : Option (Mx × Int32) :=
  f_12102_J72 k36 l1 l2 l3 l4 0 s
def f_12102_L36  : Nat → Int32 → Int32 → Int32 → Int32 → Mx → Option (Mx × Int32)
  | 0, _, _, _, _, _ => none
  | n + 1, l1, l2, l3, l4, s =>
    if (mf s 74) ≤ l4 then
      some (s, l3)
    else
      gd (vi l4 30) <|
      if (mg s 46 l4) = l1 then
        gd (vi l4 30) <|
        if (mg s 47 l4) = l2 then
          f_12102_J72 (f_12102_L36 n) l1 l2 l3 l4 1 s
        else
          f_12102_J71 (f_12102_L36 n) l1 l2 l3 l4 s
      else
        f_12102_J71 (f_12102_L36 n) l1 l2 l3 l4 s
def f_12102_J21  (l1 : Int32) (l2 : Int32) (k0 : Int32) (s : Mx) : Option (Mx × Int32) :=
  bT (f_12003 k0 1 1 s) fun s8 r8 =>
  if r8 = 0 then
    some (s8, 0)
  else
    f_12102_L36 1000 l1 l2 (-1) 0 s8
def f_12102_J20  (l1 : Int32) (l2 : Int32) (s : Mx) : Option (Mx × Int32) :=
  f_12102_J21 l1 l2 0 s
def f_12102 (x0 : Int32) (x1 : Int32) (s : Mx) : Option (Mx × Int32) :=
  if (f_12091 x0 s) = 0 then
    f_12102_J20 x0 x1 s
  else
    if (f_12082 x1 s) = 0 then
      f_12102_J20 x0 x1 s
    else
      f_12102_J21 x0 x1 1 s
theorem sp_12102 {d : Nat} {G : ab_G} {ad : Nat → Nat} {I : Nat → Nat → Int32} {s : Mx} {P : ab_Pq} {X : ab_Xq} (hE : EM G ad) (hP : RepM I ad s) {x0 : Int32} {x1 : Int32}  {o : Mx × Int32} (ho : f_12102 x0 x1 s = some o) (h : ∀ I1, RepM I1 ad o.1 → FrM ad I I1 → P (gW G I1) (some (.int o.2))) : ab_Gam (d + 3) 12102 [.ref (ad 0), .int x0, .int x1] (gW G I) P X := by
  have h2 := h
  have hF : FrM ad I I := FrM_rfl
  unfold f_12102 at ho
  refine ab_enter (I := i12102) rfl (Nat.le_of_ble_eq_true rfl) (fun R hR => ?_)
  have h12102_L36 : ∀ (n : Nat) (l1 : Int32) (l2 : Int32) (l3 : Int32) (l4 : Int32) (w5 : Option Value) (s : Mx) (Ia : Nat → Nat → Int32) (bc bs : Nat) (hPa : RepM Ia ad s) (hFa : FrM ad I Ia) (ho : f_12102_L36 n l1 l2 l3 l4 s = some o), R 36 [some (.ref (ad 0)), some (.int l1), some (.int l2), some (.int l3), some (.int l4), w5] [] (gW G Ia) bc bs := by
    intro n
    induction n with
    | zero => intro l1 l2 l3 l4 w5 s Ia bc bs  hPa hFa ho; exact absurd ho (by intro hc; cases hc)
    | succ n36 ih36 =>
      have h12102_J72 : ∀ (l1 : Int32) (l2 : Int32) (l3 : Int32) (l4 : Int32) (k0 : Int32) (w5 : Option Value) (s : Mx) (Ia : Nat → Nat → Int32) (bc bs : Nat) (hPa : RepM Ia ad s) (hFa : FrM ad I Ia) (ho : f_12102_J72 (f_12102_L36 n36) l1 l2 l3 l4 k0 s = some o), R 72 [some (.ref (ad 0)), some (.int l1), some (.int l2), some (.int l3), some (.int l4), w5] [.int k0] (gW G Ia) bc bs := by
        intro l1 l2 l3 l4 k0 w5 s Ia bc bs  hPa hFa ho
        unfold f_12102_J72 at ho
        refine us_istore hR dX11_best_72 (Nat.le_of_ble_eq_true rfl) ?_
        refine us_iload hR dX11_best_74 rfl ?_
        refine us_if_eq hR dX11_best_76 98 (by decide) (fun c1 => ?_) (fun c1 => ?_)
        · rw [if_pos c1] at ho
          refine us_iload_n hR dX11_best_98 rfl ?_
          refine us_istore_n hR dX11_best_99 (Nat.le_of_ble_eq_true rfl) ?_
          refine us_iincC hR dX11_best_100 rfl (Nat.le_of_ble_eq_true rfl) (c := 1) (by decide) ?_
          refine us_goto hR dX11_best_103 36 (by decide) ?_
          exact ih36 l1 l2 l3 (l4 + 1) _ s Ia _ _ hPa hFa ho
        · rw [if_neg c1] at ho
          refine us_aload_n hR dX11_best_79 rfl ?_
          refine us_iload hR dX11_best_80 rfl ?_
          refine us_callV hR dX11_best_82 (y := 12098) (by decide +kernel) (by decide) (J := i12098) rfl rfl rfl rfl hE.2.1 rfl (Nat.le_of_ble_eq_true rfl) (Nat.zero_le _) (Nat.zero_le _) ?_
          obtain ⟨r2, hr2⟩ := bP_ex ho
          replace ho := bP_go ho hr2
          refine sp_12098 hE hPa  hr2 ?_
          refine us_iload_n hR dX11_best_85 rfl ?_
          refine us_icmp_le hR dX11_best_86 98 (by decide) (fun c3 => ?_) (fun c3 => ?_)
          · rw [if_pos c3] at ho
            refine us_iload_n hR dX11_best_98 rfl ?_
            refine us_istore_n hR dX11_best_99 (Nat.le_of_ble_eq_true rfl) ?_
            refine us_iincC hR dX11_best_100 rfl (Nat.le_of_ble_eq_true rfl) (c := 1) (by decide) ?_
            refine us_goto hR dX11_best_103 36 (by decide) ?_
            exact ih36 l1 l2 l3 (l4 + 1) _ s Ia _ _ hPa hFa ho
          · rw [if_neg c3] at ho
            refine us_aload_n hR dX11_best_89 rfl ?_
            refine us_iload hR dX11_best_90 rfl ?_
            refine us_callV hR dX11_best_92 (y := 12098) (by decide +kernel) (by decide) (J := i12098) rfl rfl rfl rfl hE.2.1 rfl (Nat.le_of_ble_eq_true rfl) (Nat.zero_le _) (Nat.zero_le _) ?_
            obtain ⟨r4, hr4⟩ := bP_ex ho
            replace ho := bP_go ho hr4
            refine sp_12098 hE hPa  hr4 ?_
            refine us_goto hR dX11_best_95 99 (by decide) ?_
            refine us_istore_n hR dX11_best_99 (Nat.le_of_ble_eq_true rfl) ?_
            refine us_iincC hR dX11_best_100 rfl (Nat.le_of_ble_eq_true rfl) (c := 1) (by decide) ?_
            refine us_goto hR dX11_best_103 36 (by decide) ?_
            exact ih36 l1 l2 r4 (l4 + 1) _ s Ia _ _ hPa hFa ho
      have h12102_J71 : ∀ (l1 : Int32) (l2 : Int32) (l3 : Int32) (l4 : Int32) (w5 : Option Value) (s : Mx) (Ia : Nat → Nat → Int32) (bc bs : Nat) (hPa : RepM Ia ad s) (hFa : FrM ad I Ia) (ho : f_12102_J71 (f_12102_L36 n36) l1 l2 l3 l4 s = some o), R 71 [some (.ref (ad 0)), some (.int l1), some (.int l2), some (.int l3), some (.int l4), w5] [] (gW G Ia) bc bs := by
        intro l1 l2 l3 l4 w5 s Ia bc bs  hPa hFa ho
        unfold f_12102_J71 at ho
        refine us_iconstC hR dX11_best_71 (c := 0) (by decide) ?_
        exact h12102_J72 l1 l2 l3 l4 0 _ s Ia _ _ hPa hFa ho
      intro l1 l2 l3 l4 w5 s Ia bc bs  hPa hFa ho
      rw [f_12102_L36] at ho
      refine us_iload hR dX11_best_36 rfl ?_
      refine us_aload_n hR dX11_best_38 rfl ?_
      refine us_getIx hR dX11_best_39 fR_12_512 hE.2.1 rfl (RepM_f hPa 74) ?_
      refine us_icmp_ge hR dX11_best_42 106 (by decide) (fun c5 => ?_) (fun c5 => ?_)
      · rw [if_pos c5] at ho
        refine us_iload_n hR dX11_best_106 rfl ?_
        refine us_iret hR dX11_best_107 rfl rfl ?_
        cases ho
        exact h2 _ hPa hFa
      · rw [if_neg c5] at ho
        refine us_aload_n hR dX11_best_45 rfl ?_
        refine us_getR hR dX11_best_46 fR_12_147 hE.2.1 rfl (em_r_76 hE) ?_
        refine us_iload hR dX11_best_49 rfl ?_
        have hg := gd_c ho
        rw [gd_e hg] at ho
        refine us_ialoadM hE hPa (em_q_76 hE) hR dX11_best_51 hg ?_
        refine us_iload_n hR dX11_best_52 rfl ?_
        refine us_icmp_ne hR dX11_best_53 71 (by decide) (fun c6 => ?_) (fun c6 => ?_)
        · rw [if_neg c6] at ho
          exact h12102_J71 l1 l2 l3 l4 _ s Ia _ _ hPa hFa ho
        · rw [if_pos c6] at ho
          refine us_aload_n hR dX11_best_56 rfl ?_
          refine us_getR hR dX11_best_57 fR_12_150 hE.2.1 rfl (em_r_77 hE) ?_
          refine us_iload hR dX11_best_60 rfl ?_
          have hg := gd_c ho
          rw [gd_e hg] at ho
          refine us_ialoadM hE hPa (em_q_77 hE) hR dX11_best_62 hg ?_
          refine us_iload_n hR dX11_best_63 rfl ?_
          refine us_icmp_ne hR dX11_best_64 71 (by decide) (fun c7 => ?_) (fun c7 => ?_)
          · rw [if_neg c7] at ho
            exact h12102_J71 l1 l2 l3 l4 _ s Ia _ _ hPa hFa ho
          · rw [if_pos c7] at ho
            refine us_iconstC hR dX11_best_67 (c := 1) (by decide) ?_
            refine us_goto hR dX11_best_68 72 (by decide) ?_
            exact h12102_J72 l1 l2 l3 l4 1 _ s Ia _ _ hPa hFa ho
  have h12102_J21 : ∀ (l1 : Int32) (l2 : Int32) (k0 : Int32)  (s : Mx) (Ia : Nat → Nat → Int32) (bc bs : Nat) (hPa : RepM Ia ad s) (hFa : FrM ad I Ia) (ho : f_12102_J21 l1 l2 k0 s = some o), R 21 [some (.ref (ad 0)), some (.int l1), some (.int l2), none, none, none] [.int k0, .ref (ad 0)] (gW G Ia) bc bs := by
    intro l1 l2 k0  s Ia bc bs  hPa hFa ho
    unfold f_12102_J21 at ho
    refine us_iconstC hR dX11_best_21 (c := 1) (by decide) ?_
    refine us_iconstC hR dX11_best_22 (c := 1) (by decide) ?_
    refine us_callV hR dX11_best_23 (y := 12003) (by decide +kernel) (by decide) (J := i12003) rfl rfl rfl rfl hE.2.1 rfl (Nat.le_of_ble_eq_true rfl) (Nat.zero_le _) (Nat.zero_le _) ?_
    refine sp_12003 hE hPa  (fun I8 q8 hs8 hb8 hP8 hF8 => ?_)
    rw [← hs8] at ho
    obtain ⟨s8, r8⟩ := q8
    rw [bT_eq] at ho
    have hF8 := hFa.tr hF8
    refine us_if_ne hR dX11_best_26 31 (by decide) (fun c9 => ?_) (fun c9 => ?_)
    · rw [if_neg c9] at ho
      refine us_iconstC hR dX11_best_31 (c := (-1)) (by decide) ?_
      refine us_istore_n hR dX11_best_32 (Nat.le_of_ble_eq_true rfl) ?_
      refine us_iconstC hR dX11_best_33 (c := 0) (by decide) ?_
      refine us_istore hR dX11_best_34 (Nat.le_of_ble_eq_true rfl) ?_
      exact h12102_L36 _ l1 l2 (-1) 0 _ s8 I8 _ _ hP8 hF8 ho
    · rw [if_pos c9] at ho
      refine us_iconstC hR dX11_best_29 (c := 0) (by decide) ?_
      refine us_iret hR dX11_best_30 rfl rfl ?_
      cases ho
      exact h2 _ hP8 hF8
  have h12102_J20 : ∀ (l1 : Int32) (l2 : Int32)  (s : Mx) (Ia : Nat → Nat → Int32) (bc bs : Nat) (hPa : RepM Ia ad s) (hFa : FrM ad I Ia) (ho : f_12102_J20 l1 l2 s = some o), R 20 [some (.ref (ad 0)), some (.int l1), some (.int l2), none, none, none] [.ref (ad 0)] (gW G Ia) bc bs := by
    intro l1 l2  s Ia bc bs  hPa hFa ho
    unfold f_12102_J20 at ho
    refine us_iconstC hR dX11_best_20 (c := 0) (by decide) ?_
    exact h12102_J21 l1 l2 0  s Ia _ _ hPa hFa ho
  refine us_aload_n hR dX11_best_0 rfl ?_
  refine us_iload_n hR dX11_best_1 rfl ?_
  refine us_callS hR dX11_best_2 (y := 12091) (by decide +kernel) (by decide) (J := i12091) rfl rfl rfl rfl (rest := _) (Nat.le_of_ble_eq_true rfl) (Nat.zero_le _) (Nat.zero_le _) ?_
  refine sp_12091 hE hP  (fun hb10 => ?_)
  refine us_if_eq hR dX11_best_5 20 (by decide) (fun c11 => ?_) (fun c11 => ?_)
  · rw [if_pos c11] at ho
    exact h12102_J20 x0 x1  s I _ _ hP hF ho
  · rw [if_neg c11] at ho
    refine us_aload_n hR dX11_best_8 rfl ?_
    refine us_iload_n hR dX11_best_9 rfl ?_
    refine us_callV hR dX11_best_10 (y := 12082) (by decide +kernel) (by decide) (J := i12082) rfl rfl rfl rfl hE.2.1 rfl (Nat.le_of_ble_eq_true rfl) (Nat.zero_le _) (Nat.zero_le _) ?_
    refine sp_12082 hE hP  (fun hb12 => ?_)
    refine us_if_eq hR dX11_best_13 20 (by decide) (fun c13 => ?_) (fun c13 => ?_)
    · rw [if_pos c13] at ho
      exact h12102_J20 x0 x1  s I _ _ hP hF ho
    · rw [if_neg c13] at ho
      refine us_iconstC hR dX11_best_16 (c := 1) (by decide) ?_
      refine us_goto hR dX11_best_17 21 (by decide) ?_
      exact h12102_J21 x0 x1 1  s I _ _ hP hF ho
def f_12103_J62  (k22 : Int32 → Int32 → Int32 → Int32 → Mx → Option (Mx × Int32)) (l1 : Int32) (l2 : Int32) (l3 : Int32) (l4 : Int32) (k0 : Int32) (s : Mx) : Option (Mx × Int32) :=
  k22 l1 l2 (k0 + 0) (l4 + 1) s
def f_12103_L22  : Nat → Int32 → Int32 → Int32 → Int32 → Mx → Option (Mx × Int32)
  | 0, _, _, _, _, _ => none
  | n + 1, l1, l2, l3, l4, s =>
    if (mf s 74) ≤ l4 then
      some (s, l3)
    else
      gd (vi l4 30) <|
      if (mg s 47 l4) = l1 then
        gd (vi ((8 * l4) + l2) 240) <|
        if (mg s 51 ((8 * l4) + l2)) = 0 then
          f_12103_J62 (f_12103_L22 n) l1 l2 l3 l4 l3 s
        else
          f_12103_L22 n l1 l2 (l3 + 1) (l4 + 1) s
      else
        f_12103_J62 (f_12103_L22 n) l1 l2 l3 l4 l3 s
def f_12103 (x0 : Int32) (x1 : Int32) (s : Mx) : Option (Mx × Int32) :=
  bP (f_12083 x0 x1 s) fun r4 =>
  bT (f_12003 r4 1 1 s) fun s5 r5 =>
  if r5 = 0 then
    some (s5, 0)
  else
    f_12103_L22 1000 x0 x1 0 0 s5
theorem sp_12103 {d : Nat} {G : ab_G} {ad : Nat → Nat} {I : Nat → Nat → Int32} {s : Mx} {P : ab_Pq} {X : ab_Xq} (hE : EM G ad) (hP : RepM I ad s) {x0 : Int32} {x1 : Int32}  {o : Mx × Int32} (ho : f_12103 x0 x1 s = some o) (h : ∀ I1, RepM I1 ad o.1 → FrM ad I I1 → P (gW G I1) (some (.int o.2))) : ab_Gam (d + 4) 12103 [.ref (ad 0), .int x0, .int x1] (gW G I) P X := by
  have h2 := h
  have hF : FrM ad I I := FrM_rfl
  unfold f_12103 at ho
  refine ab_enter (I := i12103) rfl (Nat.le_of_ble_eq_true rfl) (fun R hR => ?_)
  have h12103_L22 : ∀ (n : Nat) (l1 : Int32) (l2 : Int32) (l3 : Int32) (l4 : Int32)  (s : Mx) (Ia : Nat → Nat → Int32) (bc bs : Nat) (hPa : RepM Ia ad s) (hFa : FrM ad I Ia) (ho : f_12103_L22 n l1 l2 l3 l4 s = some o), R 22 [some (.ref (ad 0)), some (.int l1), some (.int l2), some (.int l3), some (.int l4)] [] (gW G Ia) bc bs := by
    intro n
    induction n with
    | zero => intro l1 l2 l3 l4  s Ia bc bs  hPa hFa ho; exact absurd ho (by intro hc; cases hc)
    | succ n22 ih22 =>
      have h12103_J62 : ∀ (l1 : Int32) (l2 : Int32) (l3 : Int32) (l4 : Int32) (k0 : Int32)  (s : Mx) (Ia : Nat → Nat → Int32) (bc bs : Nat) (hPa : RepM Ia ad s) (hFa : FrM ad I Ia) (ho : f_12103_J62 (f_12103_L22 n22) l1 l2 l3 l4 k0 s = some o), R 62 [some (.ref (ad 0)), some (.int l1), some (.int l2), some (.int l3), some (.int l4)] [.int k0] (gW G Ia) bc bs := by
        intro l1 l2 l3 l4 k0  s Ia bc bs  hPa hFa ho
        unfold f_12103_J62 at ho
        refine us_iconstC hR dX11_passed_62 (c := 0) (by decide) ?_
        refine us_iadd hR dX11_passed_63 ?_
        refine us_istore_n hR dX11_passed_64 (Nat.le_of_ble_eq_true rfl) ?_
        refine us_iincC hR dX11_passed_65 rfl (Nat.le_of_ble_eq_true rfl) (c := 1) (by decide) ?_
        refine us_goto hR dX11_passed_68 22 (by decide) ?_
        exact ih22 l1 l2 (k0 + 0) (l4 + 1)  s Ia _ _ hPa hFa ho
      intro l1 l2 l3 l4  s Ia bc bs  hPa hFa ho
      rw [f_12103_L22] at ho
      refine us_iload hR dX11_passed_22 rfl ?_
      refine us_aload_n hR dX11_passed_24 rfl ?_
      refine us_getIx hR dX11_passed_25 fR_12_512 hE.2.1 rfl (RepM_f hPa 74) ?_
      refine us_icmp_ge hR dX11_passed_28 71 (by decide) (fun c1 => ?_) (fun c1 => ?_)
      · rw [if_pos c1] at ho
        refine us_iload_n hR dX11_passed_71 rfl ?_
        refine us_iret hR dX11_passed_72 rfl rfl ?_
        cases ho
        exact h2 _ hPa hFa
      · rw [if_neg c1] at ho
        refine us_iload_n hR dX11_passed_31 rfl ?_
        refine us_aload_n hR dX11_passed_32 rfl ?_
        refine us_getR hR dX11_passed_33 fR_12_150 hE.2.1 rfl (em_r_77 hE) ?_
        refine us_iload hR dX11_passed_36 rfl ?_
        have hg := gd_c ho
        rw [gd_e hg] at ho
        refine us_ialoadM hE hPa (em_q_77 hE) hR dX11_passed_38 hg ?_
        refine us_iload_n hR dX11_passed_39 rfl ?_
        refine us_icmp_ne hR dX11_passed_40 62 (by decide) (fun c2 => ?_) (fun c2 => ?_)
        · rw [if_neg c2] at ho
          exact h12103_J62 l1 l2 l3 l4 l3  s Ia _ _ hPa hFa ho
        · rw [if_pos c2] at ho
          refine us_aload_n hR dX11_passed_43 rfl ?_
          refine us_getR hR dX11_passed_44 fR_12_162 hE.2.1 rfl (em_r_81 hE) ?_
          refine us_bipushC hR dX11_passed_47 (c := 8) (by decide) ?_
          refine us_iload hR dX11_passed_49 rfl ?_
          refine us_imul hR dX11_passed_51 ?_
          refine us_iload_n hR dX11_passed_52 rfl ?_
          refine us_iadd hR dX11_passed_53 ?_
          have hg := gd_c ho
          rw [gd_e hg] at ho
          refine us_baloadM hE hPa (em_q_81 hE) hR dX11_passed_54 hg ?_
          refine us_if_eq hR dX11_passed_55 62 (by decide) (fun c3 => ?_) (fun c3 => ?_)
          · rw [if_pos c3] at ho
            exact h12103_J62 l1 l2 l3 l4 l3  s Ia _ _ hPa hFa ho
          · rw [if_neg c3] at ho
            refine us_iconstC hR dX11_passed_58 (c := 1) (by decide) ?_
            refine us_goto hR dX11_passed_59 63 (by decide) ?_
            refine us_iadd hR dX11_passed_63 ?_
            refine us_istore_n hR dX11_passed_64 (Nat.le_of_ble_eq_true rfl) ?_
            refine us_iincC hR dX11_passed_65 rfl (Nat.le_of_ble_eq_true rfl) (c := 1) (by decide) ?_
            refine us_goto hR dX11_passed_68 22 (by decide) ?_
            exact ih22 l1 l2 (l3 + 1) (l4 + 1)  s Ia _ _ hPa hFa ho
  refine us_aload_n hR dX11_passed_0 rfl ?_
  refine us_aload_n hR dX11_passed_1 rfl ?_
  refine us_iload_n hR dX11_passed_2 rfl ?_
  refine us_iload_n hR dX11_passed_3 rfl ?_
  refine us_callV hR dX11_passed_4 (y := 12083) (by decide +kernel) (by decide) (J := i12083) rfl rfl rfl rfl hE.2.1 rfl (Nat.le_of_ble_eq_true rfl) (Nat.zero_le _) (Nat.zero_le _) ?_
  obtain ⟨r4, hr4⟩ := bP_ex ho
  replace ho := bP_go ho hr4
  refine sp_12083 hE hP  hr4 (fun hb4 => ?_)
  refine us_iconstC hR dX11_passed_7 (c := 1) (by decide) ?_
  refine us_iconstC hR dX11_passed_8 (c := 1) (by decide) ?_
  refine us_callV hR dX11_passed_9 (y := 12003) (by decide +kernel) (by decide) (J := i12003) rfl rfl rfl rfl hE.2.1 rfl (Nat.le_of_ble_eq_true rfl) (Nat.zero_le _) (Nat.zero_le _) ?_
  refine sp_12003 hE hP  (fun I5 q5 hs5 hb5 hP5 hF5 => ?_)
  rw [← hs5] at ho
  obtain ⟨s5, r5⟩ := q5
  rw [bT_eq] at ho
  have hF5 := hF.tr hF5
  refine us_if_ne hR dX11_passed_12 17 (by decide) (fun c6 => ?_) (fun c6 => ?_)
  · rw [if_neg c6] at ho
    refine us_iconstC hR dX11_passed_17 (c := 0) (by decide) ?_
    refine us_istore_n hR dX11_passed_18 (Nat.le_of_ble_eq_true rfl) ?_
    refine us_iconstC hR dX11_passed_19 (c := 0) (by decide) ?_
    refine us_istore hR dX11_passed_20 (Nat.le_of_ble_eq_true rfl) ?_
    exact h12103_L22 _ x0 x1 0 0  s5 I5 _ _ hP5 hF5 ho
  · rw [if_pos c6] at ho
    refine us_iconstC hR dX11_passed_15 (c := 0) (by decide) ?_
    refine us_iret hR dX11_passed_16 rfl rfl ?_
    cases ho
    exact h2 _ hP5 hF5
def f_12104 (x0 : Int32) (s : Mx) : Option (Mx × Int32) :=
  bT (f_12003 (f_12090 x0 s) 1 1 s) fun s2 r2 =>
  if r2 = 0 then
    some (s2, 0)
  else
    bOv (f_12072 x0 s2) fun s4 =>
    some (s4, (mf s4 16))
theorem sp_12104 {d : Nat} {G : ab_G} {ad : Nat → Nat} {I : Nat → Nat → Int32} {s : Mx} {P : ab_Pq} {X : ab_Xq} (hE : EM G ad) (hP : RepM I ad s) {x0 : Int32}  {o : Mx × Int32} (ho : f_12104 x0 s = some o) (h : ∀ I1, RepM I1 ad o.1 → FrM ad I I1 → P (gW G I1) (some (.int o.2))) : ab_Gam (d + 10) 12104 [.ref (ad 0), .int x0] (gW G I) P X := by
  have h2 := h
  have hF : FrM ad I I := FrM_rfl
  unfold f_12104 at ho
  refine ab_enter (I := i12104) rfl (Nat.le_of_ble_eq_true rfl) (fun R hR => ?_)
  refine us_aload_n hR dX11_parts_0 rfl ?_
  refine us_aload_n hR dX11_parts_1 rfl ?_
  refine us_iload_n hR dX11_parts_2 rfl ?_
  refine us_callV hR dX11_parts_3 (y := 12090) (by decide +kernel) (by decide) (J := i12090) rfl rfl rfl rfl hE.2.1 rfl (Nat.le_of_ble_eq_true rfl) (Nat.zero_le _) (Nat.zero_le _) ?_
  refine sp_12090 hE hP  (fun hb1 => ?_)
  refine us_iconstC hR dX11_parts_6 (c := 1) (by decide) ?_
  refine us_iconstC hR dX11_parts_7 (c := 1) (by decide) ?_
  refine us_callV hR dX11_parts_8 (y := 12003) (by decide +kernel) (by decide) (J := i12003) rfl rfl rfl rfl hE.2.1 rfl (Nat.le_of_ble_eq_true rfl) (Nat.zero_le _) (Nat.zero_le _) ?_
  refine sp_12003 hE hP  (fun I2 q2 hs2 hb2 hP2 hF2 => ?_)
  rw [← hs2] at ho
  obtain ⟨s2, r2⟩ := q2
  rw [bT_eq] at ho
  have hF2 := hF.tr hF2
  refine us_if_ne hR dX11_parts_11 16 (by decide) (fun c3 => ?_) (fun c3 => ?_)
  · rw [if_neg c3] at ho
    refine us_aload_n hR dX11_parts_16 rfl ?_
    refine us_iload_n hR dX11_parts_17 rfl ?_
    refine us_callV hR dX11_parts_18 (y := 12072) (by decide +kernel) (by decide) (J := i12072) rfl rfl rfl rfl hE.2.1 rfl (Nat.le_of_ble_eq_true rfl) (Nat.zero_le _) (Nat.zero_le _) ?_
    obtain ⟨s4, hs4⟩ := bOv_ex ho
    replace ho := bOv_go ho hs4
    refine sp_12072 hE hP2  hs4 (fun I4 hP4 hF4 => ?_)
    have hF4 := hF2.tr hF4
    refine us_aload_n hR dX11_parts_21 rfl ?_
    refine us_getIx hR dX11_parts_22 fR_12_269 hE.2.1 rfl (RepM_f hP4 16) ?_
    refine us_iret hR dX11_parts_25 rfl rfl ?_
    cases ho
    exact h2 _ hP4 hF4
  · rw [if_pos c3] at ho
    refine us_iconstC hR dX11_parts_14 (c := 0) (by decide) ?_
    refine us_iret hR dX11_parts_15 rfl rfl ?_
    cases ho
    exact h2 _ hP2 hF2
def f_12105_L41  : Nat → Int32 → Int32 → Int32 → Int32 → Int32 → Mx → Option Int32
  | 0, _, _, _, _, _, _ => none
  | n + 1, l1, l2, l3, l4, l5, s =>
    if l3 < l5 then
      gd (l4 = 0 ∨ l4 = 1) <|
      some l4
    else
      if l4 = 0 then
        gd (l4 = 0 ∨ l4 = 1) <|
        some l4
      else
        gd (vi l1 100) <|
        gd (vi ((mg s 7 l1) + l5) 301) <|
        gd (vi l2 100) <|
        gd (vi ((mg s 27 l2) + l5) 301) <|
        if (mg s 6 ((mg s 7 l1) + l5)) = (mg s 26 ((mg s 27 l2) + l5)) then
          f_12105_L41 n l1 l2 l3 1 (l5 + 1) s
        else
          f_12105_L41 n l1 l2 l3 0 (l5 + 1) s
def f_12105 (x0 : Int32) (x1 : Int32) (s : Mx) : Option Int32 :=
  gd (vi x0 100) <|
  gd (vi x0 100) <|
  gd (vi x1 100) <|
  gd (vi x1 100) <|
  if ((mg s 8 x0) - (mg s 7 x0)) = ((mg s 28 x1) - (mg s 27 x1)) then
    f_12105_L41 1000 x0 x1 ((mg s 8 x0) - (mg s 7 x0)) 1 0 s
  else
    f_12105_L41 1000 x0 x1 ((mg s 8 x0) - (mg s 7 x0)) 0 0 s
theorem sp_12105 {d : Nat} {G : ab_G} {ad : Nat → Nat} {I : Nat → Nat → Int32} {s : Mx} {P : ab_Pq} {X : ab_Xq} (hE : EM G ad) (hP : RepM I ad s) {x0 : Int32} {x1 : Int32}  {o : Int32} (ho : f_12105 x0 x1 s = some o) (h : (o = 0 ∨ o = 1) → P (gW G I) (some (.int o))) : ab_Gam (d + 1) 12105 [.ref (ad 0), .int x0, .int x1] (gW G I) P X := by
  have h2 := h
  have hF : FrM ad I I := FrM_rfl
  unfold f_12105 at ho
  refine ab_enter (I := i12105) rfl (Nat.le_of_ble_eq_true rfl) (fun R hR => ?_)
  have h12105_L41 : ∀ (n : Nat) (l1 : Int32) (l2 : Int32) (l3 : Int32) (l4 : Int32) (l5 : Int32)  (bc bs : Nat) (ho : f_12105_L41 n l1 l2 l3 l4 l5 s = some o), R 41 [some (.ref (ad 0)), some (.int l1), some (.int l2), some (.int l3), some (.int l4), some (.int l5)] [] (gW G I) bc bs := by
    intro n
    induction n with
    | zero => intro l1 l2 l3 l4 l5  bc bs  ho; exact absurd ho (by intro hc; cases hc)
    | succ n41 ih41 =>
      intro l1 l2 l3 l4 l5  bc bs  ho
      rw [f_12105_L41] at ho
      refine us_iload hR dX11_isAlike_41 rfl ?_
      refine us_iload_n hR dX11_isAlike_43 rfl ?_
      refine us_icmp_gt hR dX11_isAlike_44 96 (by decide) (fun c1 => ?_) (fun c1 => ?_)
      · rw [if_pos c1] at ho
        refine us_iload hR dX11_isAlike_96 rfl ?_
        have hg := gd_c ho
        rw [gd_e hg] at ho
        refine us_iret hR dX11_isAlike_98 rfl (nar01 hg) ?_
        cases ho
        exact h2 hg 
      · rw [if_neg c1] at ho
        refine us_iload hR dX11_isAlike_47 rfl ?_
        refine us_if_eq hR dX11_isAlike_49 96 (by decide) (fun c2 => ?_) (fun c2 => ?_)
        · rw [if_pos c2] at ho
          refine us_iload hR dX11_isAlike_96 rfl ?_
          have hg := gd_c ho
          rw [gd_e hg] at ho
          refine us_iret hR dX11_isAlike_98 rfl (nar01 hg) ?_
          cases ho
          exact h2 hg 
        · rw [if_neg c2] at ho
          refine us_aload_n hR dX11_isAlike_52 rfl ?_
          refine us_getR hR dX11_isAlike_53 fR_12_26 hE.2.1 rfl (em_r_15 hE) ?_
          refine us_aload_n hR dX11_isAlike_56 rfl ?_
          refine us_getR hR dX11_isAlike_57 fR_12_29 hE.2.1 rfl (em_r_17 hE) ?_
          refine us_iload_n hR dX11_isAlike_60 rfl ?_
          have hg := gd_c ho
          rw [gd_e hg] at ho
          refine us_ialoadM hE hP (em_q_17 hE) hR dX11_isAlike_61 hg ?_
          refine us_iload hR dX11_isAlike_62 rfl ?_
          refine us_iadd hR dX11_isAlike_64 ?_
          have hg := gd_c ho
          rw [gd_e hg] at ho
          refine us_ialoadM hE hP (em_q_15 hE) hR dX11_isAlike_65 hg ?_
          refine us_aload_n hR dX11_isAlike_66 rfl ?_
          refine us_getR hR dX11_isAlike_67 fR_12_86 hE.2.1 rfl (em_r_45 hE) ?_
          refine us_aload_n hR dX11_isAlike_70 rfl ?_
          refine us_getR hR dX11_isAlike_71 fR_12_89 hE.2.1 rfl (em_r_46 hE) ?_
          refine us_iload_n hR dX11_isAlike_74 rfl ?_
          have hg := gd_c ho
          rw [gd_e hg] at ho
          refine us_ialoadM hE hP (em_q_46 hE) hR dX11_isAlike_75 hg ?_
          refine us_iload hR dX11_isAlike_76 rfl ?_
          refine us_iadd hR dX11_isAlike_78 ?_
          have hg := gd_c ho
          rw [gd_e hg] at ho
          refine us_ialoadM hE hP (em_q_45 hE) hR dX11_isAlike_79 hg ?_
          refine us_icmp_ne hR dX11_isAlike_80 87 (by decide) (fun c3 => ?_) (fun c3 => ?_)
          · rw [if_neg c3] at ho
            refine us_iconstC hR dX11_isAlike_87 (c := 0) (by decide) ?_
            refine us_istore hR dX11_isAlike_88 (Nat.le_of_ble_eq_true rfl) ?_
            refine us_iincC hR dX11_isAlike_90 rfl (Nat.le_of_ble_eq_true rfl) (c := 1) (by decide) ?_
            refine us_goto hR dX11_isAlike_93 41 (by decide) ?_
            exact ih41 l1 l2 l3 0 (l5 + 1)  _ _ ho
          · rw [if_pos c3] at ho
            refine us_iconstC hR dX11_isAlike_83 (c := 1) (by decide) ?_
            refine us_goto hR dX11_isAlike_84 88 (by decide) ?_
            refine us_istore hR dX11_isAlike_88 (Nat.le_of_ble_eq_true rfl) ?_
            refine us_iincC hR dX11_isAlike_90 rfl (Nat.le_of_ble_eq_true rfl) (c := 1) (by decide) ?_
            refine us_goto hR dX11_isAlike_93 41 (by decide) ?_
            exact ih41 l1 l2 l3 1 (l5 + 1)  _ _ ho
  refine us_aload_n hR dX11_isAlike_0 rfl ?_
  refine us_getR hR dX11_isAlike_1 fR_12_32 hE.2.1 rfl (em_r_18 hE) ?_
  refine us_iload_n hR dX11_isAlike_4 rfl ?_
  have hg := gd_c ho
  rw [gd_e hg] at ho
  refine us_ialoadM hE hP (em_q_18 hE) hR dX11_isAlike_5 hg ?_
  refine us_aload_n hR dX11_isAlike_6 rfl ?_
  refine us_getR hR dX11_isAlike_7 fR_12_29 hE.2.1 rfl (em_r_17 hE) ?_
  refine us_iload_n hR dX11_isAlike_10 rfl ?_
  have hg := gd_c ho
  rw [gd_e hg] at ho
  refine us_ialoadM hE hP (em_q_17 hE) hR dX11_isAlike_11 hg ?_
  refine us_isub hR dX11_isAlike_12 ?_
  refine us_istore_n hR dX11_isAlike_13 (Nat.le_of_ble_eq_true rfl) ?_
  refine us_iload_n hR dX11_isAlike_14 rfl ?_
  refine us_aload_n hR dX11_isAlike_15 rfl ?_
  refine us_getR hR dX11_isAlike_16 fR_12_92 hE.2.1 rfl (em_r_47 hE) ?_
  refine us_iload_n hR dX11_isAlike_19 rfl ?_
  have hg := gd_c ho
  rw [gd_e hg] at ho
  refine us_ialoadM hE hP (em_q_47 hE) hR dX11_isAlike_20 hg ?_
  refine us_aload_n hR dX11_isAlike_21 rfl ?_
  refine us_getR hR dX11_isAlike_22 fR_12_89 hE.2.1 rfl (em_r_46 hE) ?_
  refine us_iload_n hR dX11_isAlike_25 rfl ?_
  have hg := gd_c ho
  rw [gd_e hg] at ho
  refine us_ialoadM hE hP (em_q_46 hE) hR dX11_isAlike_26 hg ?_
  refine us_isub hR dX11_isAlike_27 ?_
  refine us_icmp_ne hR dX11_isAlike_28 35 (by decide) (fun c4 => ?_) (fun c4 => ?_)
  · rw [if_neg c4] at ho
    refine us_iconstC hR dX11_isAlike_35 (c := 0) (by decide) ?_
    refine us_istore hR dX11_isAlike_36 (Nat.le_of_ble_eq_true rfl) ?_
    refine us_iconstC hR dX11_isAlike_38 (c := 0) (by decide) ?_
    refine us_istore hR dX11_isAlike_39 (Nat.le_of_ble_eq_true rfl) ?_
    exact h12105_L41 _ x0 x1 ((mg s 8 x0) - (mg s 7 x0)) 0 0  _ _ ho
  · rw [if_pos c4] at ho
    refine us_iconstC hR dX11_isAlike_31 (c := 1) (by decide) ?_
    refine us_goto hR dX11_isAlike_32 36 (by decide) ?_
    refine us_istore hR dX11_isAlike_36 (Nat.le_of_ble_eq_true rfl) ?_
    refine us_iconstC hR dX11_isAlike_38 (c := 0) (by decide) ?_
    refine us_istore hR dX11_isAlike_39 (Nat.le_of_ble_eq_true rfl) ?_
    exact h12105_L41 _ x0 x1 ((mg s 8 x0) - (mg s 7 x0)) 1 0  _ _ ho
def f_12106_J188  (k98 : Int32 → Int32 → Int32 → Int32 → Mx → Option (Mx × Int32)) (l1 : Int32) (l2 : Int32) (l3 : Int32) (l4 : Int32) (l5 : Int32) (l6 : Int32) (s : Mx) : Option (Mx × Int32) :=
  if l5 = 0 then
    k98 l1 l2 (l3 + 0) (l4 + 1) s
  else
    k98 l1 l2 (l3 + 1) (l4 + 1) s
def f_12106_J176  (k98 : Int32 → Int32 → Int32 → Int32 → Mx → Option (Mx × Int32)) (k113 : Int32 → Int32 → Int32 → Int32 → Int32 → Int32 → Mx → Option (Mx × Int32)) (l1 : Int32) (l2 : Int32) (l3 : Int32) (l4 : Int32) (l5 : Int32) (l6 : Int32) (k0 : Int32) (s : Mx) : Option (Mx × Int32) :=
  gd (vi k0 100) <|
  bS (ms s 29 k0 (vp_nar .boolean 1)) fun s2 =>
  k113 l1 l2 l3 l4 l5 (l6 + 1) s2
def f_12106_J153  (k98 : Int32 → Int32 → Int32 → Int32 → Mx → Option (Mx × Int32)) (k113 : Int32 → Int32 → Int32 → Int32 → Int32 → Int32 → Mx → Option (Mx × Int32)) (l1 : Int32) (l2 : Int32) (l3 : Int32) (l4 : Int32) (l5 : Int32) (l6 : Int32) (k0 : Int32) (s : Mx) : Option (Mx × Int32) :=
  gd (vi l6 100) <|
  if (mg s 29 l6) = 0 then
    if k0 = 0 then
      gd (vi l6 100) <|
      bS (ms s 29 l6 (vp_nar .boolean 0)) fun s5 =>
      k113 l1 l2 l3 l4 k0 (l6 + 1) s5
    else
      f_12106_J176 k98 k113 l1 l2 l3 l4 k0 l6 l6 s
  else
    f_12106_J176 k98 k113 l1 l2 l3 l4 k0 l6 l6 s
def f_12106_J152  (k98 : Int32 → Int32 → Int32 → Int32 → Mx → Option (Mx × Int32)) (k113 : Int32 → Int32 → Int32 → Int32 → Int32 → Int32 → Mx → Option (Mx × Int32)) (l1 : Int32) (l2 : Int32) (l3 : Int32) (l4 : Int32) (l5 : Int32) (l6 : Int32) (s : Mx) : Option (Mx × Int32) :=
  f_12106_J153 k98 k113 l1 l2 l3 l4 l5 l6 0 s
def f_12106_L113  (k98 : Int32 → Int32 → Int32 → Int32 → Mx → Option (Mx × Int32)) : Nat → Int32 → Int32 → Int32 → Int32 → Int32 → Int32 → Mx → Option (Mx × Int32)
  | 0, _, _, _, _, _, _, _ => none
  | n + 1, l1, l2, l3, l4, l5, l6, s =>
    if (mf s 44) ≤ l6 then
      f_12106_J188 k98 l1 l2 l3 l4 l5 l6 s
    else
      if l5 = 0 then
        gd (vi l6 100) <|
        if (mg s 29 l6) = 0 then
          bP (f_12105 l4 l6 s) fun r9 =>
          if r9 = 0 then
            f_12106_J152 k98 (f_12106_L113 k98 n) l1 l2 l3 l4 l5 l6 s
          else
            f_12106_J153 k98 (f_12106_L113 k98 n) l1 l2 l3 l4 l5 l6 1 s
        else
          f_12106_J152 k98 (f_12106_L113 k98 n) l1 l2 l3 l4 l5 l6 s
      else
        f_12106_J188 k98 l1 l2 l3 l4 l5 l6 s
def f_12106_L98  : Nat → Int32 → Int32 → Int32 → Int32 → Mx → Option (Mx × Int32)
  | 0, _, _, _, _, _ => none
  | n + 1, l1, l2, l3, l4, s =>
    if (mf s 16) ≤ l4 then
      some (s, l3)
    else
      f_12106_L113 (f_12106_L98 n) 1000 l1 l2 l3 l4 0 0 s
def f_12106_L43  : Nat → Int32 → Int32 → Int32 → Mx → Option (Mx × Int32)
  | 0, _, _, _, _ => none
  | n + 1, l1, l2, l3, s =>
    if (mf s 16) ≤ l3 then
      bOv (f_12072 l1 s) fun s13 =>
      f_12106_L98 1000 l1 l2 0 0 s13
    else
      gd (vi l3 100) <|
      gd (vi l3 100) <|
      bS (ms s 27 l3 (mg s 7 l3)) fun s14 =>
      gd (vi l3 100) <|
      gd (vi l3 100) <|
      bS (ms s14 28 l3 (mg s14 8 l3)) fun s15 =>
      gd (vi l3 100) <|
      bS (ms s15 29 l3 (vp_nar .boolean 0)) fun s16 =>
      f_12106_L43 n l1 l2 (l3 + 1) s16
def f_12106_L15  : Nat → Int32 → Int32 → Int32 → Mx → Option (Mx × Int32)
  | 0, _, _, _, _ => none
  | n + 1, l1, l2, l3, s =>
    if (mf s 14) ≤ l3 then
      f_12106_L43 1000 l1 l2 0 s
    else
      gd (vi l3 301) <|
      gd (vi l3 301) <|
      bS (ms s 26 l3 (mg s 6 l3)) fun s18 =>
      f_12106_L15 n l1 l2 (l3 + 1) s18
def f_12106 (x0 : Int32) (x1 : Int32) (s : Mx) : Option (Mx × Int32) :=
  bOv (f_12072 x1 s) fun s19 =>
  bS (mp s19 44 (mf s19 16)) fun s20 =>
  f_12106_L15 1000 x0 x1 0 s20
theorem sp_12106 {d : Nat} {G : ab_G} {ad : Nat → Nat} {I : Nat → Nat → Int32} {s : Mx} {P : ab_Pq} {X : ab_Xq} (hE : EM G ad) (hP : RepM I ad s) {x0 : Int32} {x1 : Int32}  {o : Mx × Int32} (ho : f_12106 x0 x1 s = some o) (h : ∀ I1, RepM I1 ad o.1 → FrM ad I I1 → P (gW G I1) (some (.int o.2))) : ab_Gam (d + 10) 12106 [.ref (ad 0), .int x0, .int x1] (gW G I) P X := by
  have h2 := h
  have hF : FrM ad I I := FrM_rfl
  unfold f_12106 at ho
  refine ab_enter (I := i12106) rfl (Nat.le_of_ble_eq_true rfl) (fun R hR => ?_)
  have h12106_L98 : ∀ (n : Nat) (l1 : Int32) (l2 : Int32) (l3 : Int32) (l4 : Int32) (w5 : Option Value) (w6 : Option Value) (s : Mx) (Ia : Nat → Nat → Int32) (bc bs : Nat) (hPa : RepM Ia ad s) (hFa : FrM ad I Ia) (ho : f_12106_L98 n l1 l2 l3 l4 s = some o), R 98 [some (.ref (ad 0)), some (.int l1), some (.int l2), some (.int l3), some (.int l4), w5, w6] [] (gW G Ia) bc bs := by
    intro n
    induction n with
    | zero => intro l1 l2 l3 l4 w5 w6 s Ia bc bs  hPa hFa ho; exact absurd ho (by intro hc; cases hc)
    | succ n98 ih98 =>
      have h12106_J188 : ∀ (l1 : Int32) (l2 : Int32) (l3 : Int32) (l4 : Int32) (l5 : Int32) (l6 : Int32)  (s : Mx) (Ia : Nat → Nat → Int32) (bc bs : Nat) (hPa : RepM Ia ad s) (hFa : FrM ad I Ia) (ho : f_12106_J188 (f_12106_L98 n98) l1 l2 l3 l4 l5 l6 s = some o), R 188 [some (.ref (ad 0)), some (.int l1), some (.int l2), some (.int l3), some (.int l4), some (.int l5), some (.int l6)] [] (gW G Ia) bc bs := by
        intro l1 l2 l3 l4 l5 l6  s Ia bc bs  hPa hFa ho
        unfold f_12106_J188 at ho
        refine us_iload_n hR dX11_shared_188 rfl ?_
        refine us_iload hR dX11_shared_189 rfl ?_
        refine us_if_eq hR dX11_shared_191 198 (by decide) (fun c1 => ?_) (fun c1 => ?_)
        · rw [if_pos c1] at ho
          refine us_iconstC hR dX11_shared_198 (c := 0) (by decide) ?_
          refine us_iadd hR dX11_shared_199 ?_
          refine us_istore_n hR dX11_shared_200 (Nat.le_of_ble_eq_true rfl) ?_
          refine us_iincC hR dX11_shared_201 rfl (Nat.le_of_ble_eq_true rfl) (c := 1) (by decide) ?_
          refine us_goto hR dX11_shared_204 98 (by decide) ?_
          exact ih98 l1 l2 (l3 + 0) (l4 + 1) _ _ s Ia _ _ hPa hFa ho
        · rw [if_neg c1] at ho
          refine us_iconstC hR dX11_shared_194 (c := 1) (by decide) ?_
          refine us_goto hR dX11_shared_195 199 (by decide) ?_
          refine us_iadd hR dX11_shared_199 ?_
          refine us_istore_n hR dX11_shared_200 (Nat.le_of_ble_eq_true rfl) ?_
          refine us_iincC hR dX11_shared_201 rfl (Nat.le_of_ble_eq_true rfl) (c := 1) (by decide) ?_
          refine us_goto hR dX11_shared_204 98 (by decide) ?_
          exact ih98 l1 l2 (l3 + 1) (l4 + 1) _ _ s Ia _ _ hPa hFa ho
      have h12106_L113 : ∀ (n : Nat) (l1 : Int32) (l2 : Int32) (l3 : Int32) (l4 : Int32) (l5 : Int32) (l6 : Int32)  (s : Mx) (Ia : Nat → Nat → Int32) (bc bs : Nat) (hPa : RepM Ia ad s) (hFa : FrM ad I Ia) (ho : f_12106_L113 (f_12106_L98 n98) n l1 l2 l3 l4 l5 l6 s = some o), R 113 [some (.ref (ad 0)), some (.int l1), some (.int l2), some (.int l3), some (.int l4), some (.int l5), some (.int l6)] [] (gW G Ia) bc bs := by
        intro n
        induction n with
        | zero => intro l1 l2 l3 l4 l5 l6  s Ia bc bs  hPa hFa ho; exact absurd ho (by intro hc; cases hc)
        | succ n113 ih113 =>
          have h12106_J176 : ∀ (l1 : Int32) (l2 : Int32) (l3 : Int32) (l4 : Int32) (l5 : Int32) (l6 : Int32) (k0 : Int32)  (s : Mx) (Ia : Nat → Nat → Int32) (bc bs : Nat) (hPa : RepM Ia ad s) (hFa : FrM ad I Ia) (ho : f_12106_J176 (f_12106_L98 n98) (f_12106_L113 (f_12106_L98 n98) n113) l1 l2 l3 l4 l5 l6 k0 s = some o), R 176 [some (.ref (ad 0)), some (.int l1), some (.int l2), some (.int l3), some (.int l4), some (.int l5), some (.int l6)] [.int k0, .ref (ad 29)] (gW G Ia) bc bs := by
            intro l1 l2 l3 l4 l5 l6 k0  s Ia bc bs  hPa hFa ho
            unfold f_12106_J176 at ho
            refine us_iconstC hR dX11_shared_176 (c := 1) (by decide) ?_
            refine us_goto hR dX11_shared_177 181 (by decide) ?_
            have hg := gd_c ho
            rw [gd_e hg] at ho
            refine us_bastoreM hE hPa (em_q_48 hE) hR dX11_shared_181 hg (fun I2 s2 hs2 hP2 hF2 => ?_)
            rw [← hs2, bS_eq] at ho
            have hF2 := hFa.tr hF2
            refine us_iincC hR dX11_shared_182 rfl (Nat.le_of_ble_eq_true rfl) (c := 1) (by decide) ?_
            refine us_goto hR dX11_shared_185 113 (by decide) ?_
            exact ih113 l1 l2 l3 l4 l5 (l6 + 1)  s2 I2 _ _ hP2 hF2 ho
          have h12106_J153 : ∀ (l1 : Int32) (l2 : Int32) (l3 : Int32) (l4 : Int32) (l5 : Int32) (l6 : Int32) (k0 : Int32)  (s : Mx) (Ia : Nat → Nat → Int32) (bc bs : Nat) (hPa : RepM Ia ad s) (hFa : FrM ad I Ia) (ho : f_12106_J153 (f_12106_L98 n98) (f_12106_L113 (f_12106_L98 n98) n113) l1 l2 l3 l4 l5 l6 k0 s = some o), R 153 [some (.ref (ad 0)), some (.int l1), some (.int l2), some (.int l3), some (.int l4), some (.int l5), some (.int l6)] [.int k0] (gW G Ia) bc bs := by
            intro l1 l2 l3 l4 l5 l6 k0  s Ia bc bs  hPa hFa ho
            unfold f_12106_J153 at ho
            refine us_istore hR dX11_shared_153 (Nat.le_of_ble_eq_true rfl) ?_
            refine us_aload_n hR dX11_shared_155 rfl ?_
            refine us_getR hR dX11_shared_156 fR_12_95 hE.2.1 rfl (em_r_48 hE) ?_
            refine us_iload hR dX11_shared_159 rfl ?_
            refine us_aload_n hR dX11_shared_161 rfl ?_
            refine us_getR hR dX11_shared_162 fR_12_95 hE.2.1 rfl (em_r_48 hE) ?_
            refine us_iload hR dX11_shared_165 rfl ?_
            have hg := gd_c ho
            rw [gd_e hg] at ho
            refine us_baloadM hE hPa (em_q_48 hE) hR dX11_shared_167 hg ?_
            refine us_if_ne hR dX11_shared_168 176 (by decide) (fun c3 => ?_) (fun c3 => ?_)
            · rw [if_neg c3] at ho
              exact h12106_J176 l1 l2 l3 l4 k0 l6 l6  s Ia _ _ hPa hFa ho
            · rw [if_pos c3] at ho
              refine us_iload hR dX11_shared_171 rfl ?_
              refine us_if_eq hR dX11_shared_173 180 (by decide) (fun c4 => ?_) (fun c4 => ?_)
              · rw [if_pos c4] at ho
                refine us_iconstC hR dX11_shared_180 (c := 0) (by decide) ?_
                have hg := gd_c ho
                rw [gd_e hg] at ho
                refine us_bastoreM hE hPa (em_q_48 hE) hR dX11_shared_181 hg (fun I5 s5 hs5 hP5 hF5 => ?_)
                rw [← hs5, bS_eq] at ho
                have hF5 := hFa.tr hF5
                refine us_iincC hR dX11_shared_182 rfl (Nat.le_of_ble_eq_true rfl) (c := 1) (by decide) ?_
                refine us_goto hR dX11_shared_185 113 (by decide) ?_
                exact ih113 l1 l2 l3 l4 k0 (l6 + 1)  s5 I5 _ _ hP5 hF5 ho
              · rw [if_neg c4] at ho
                exact h12106_J176 l1 l2 l3 l4 k0 l6 l6  s Ia _ _ hPa hFa ho
          have h12106_J152 : ∀ (l1 : Int32) (l2 : Int32) (l3 : Int32) (l4 : Int32) (l5 : Int32) (l6 : Int32)  (s : Mx) (Ia : Nat → Nat → Int32) (bc bs : Nat) (hPa : RepM Ia ad s) (hFa : FrM ad I Ia) (ho : f_12106_J152 (f_12106_L98 n98) (f_12106_L113 (f_12106_L98 n98) n113) l1 l2 l3 l4 l5 l6 s = some o), R 152 [some (.ref (ad 0)), some (.int l1), some (.int l2), some (.int l3), some (.int l4), some (.int l5), some (.int l6)] [] (gW G Ia) bc bs := by
            intro l1 l2 l3 l4 l5 l6  s Ia bc bs  hPa hFa ho
            unfold f_12106_J152 at ho
            refine us_iconstC hR dX11_shared_152 (c := 0) (by decide) ?_
            exact h12106_J153 l1 l2 l3 l4 l5 l6 0  s Ia _ _ hPa hFa ho
          intro l1 l2 l3 l4 l5 l6  s Ia bc bs  hPa hFa ho
          rw [f_12106_L113] at ho
          refine us_iload hR dX11_shared_113 rfl ?_
          refine us_aload_n hR dX11_shared_115 rfl ?_
          refine us_getIx hR dX11_shared_116 fR_12_544 hE.2.1 rfl (RepM_f hPa 44) ?_
          refine us_icmp_ge hR dX11_shared_119 188 (by decide) (fun c6 => ?_) (fun c6 => ?_)
          · rw [if_pos c6] at ho
            exact h12106_J188 l1 l2 l3 l4 l5 l6  s Ia _ _ hPa hFa ho
          · rw [if_neg c6] at ho
            refine us_iload hR dX11_shared_122 rfl ?_
            refine us_if_ne hR dX11_shared_124 188 (by decide) (fun c7 => ?_) (fun c7 => ?_)
            · rw [if_neg c7] at ho
              exact h12106_J188 l1 l2 l3 l4 l5 l6  s Ia _ _ hPa hFa ho
            · rw [if_pos c7] at ho
              refine us_aload_n hR dX11_shared_127 rfl ?_
              refine us_getR hR dX11_shared_128 fR_12_95 hE.2.1 rfl (em_r_48 hE) ?_
              refine us_iload hR dX11_shared_131 rfl ?_
              have hg := gd_c ho
              rw [gd_e hg] at ho
              refine us_baloadM hE hPa (em_q_48 hE) hR dX11_shared_133 hg ?_
              refine us_if_ne hR dX11_shared_134 152 (by decide) (fun c8 => ?_) (fun c8 => ?_)
              · rw [if_neg c8] at ho
                exact h12106_J152 l1 l2 l3 l4 l5 l6  s Ia _ _ hPa hFa ho
              · rw [if_pos c8] at ho
                refine us_aload_n hR dX11_shared_137 rfl ?_
                refine us_iload hR dX11_shared_138 rfl ?_
                refine us_iload hR dX11_shared_140 rfl ?_
                refine us_callV hR dX11_shared_142 (y := 12105) (by decide +kernel) (by decide) (J := i12105) rfl rfl rfl rfl hE.2.1 rfl (Nat.le_of_ble_eq_true rfl) (Nat.zero_le _) (Nat.zero_le _) ?_
                obtain ⟨r9, hr9⟩ := bP_ex ho
                replace ho := bP_go ho hr9
                refine sp_12105 hE hPa  hr9 (fun hb9 => ?_)
                refine us_if_eq hR dX11_shared_145 152 (by decide) (fun c10 => ?_) (fun c10 => ?_)
                · rw [if_pos c10] at ho
                  exact h12106_J152 l1 l2 l3 l4 l5 l6  s Ia _ _ hPa hFa ho
                · rw [if_neg c10] at ho
                  refine us_iconstC hR dX11_shared_148 (c := 1) (by decide) ?_
                  refine us_goto hR dX11_shared_149 153 (by decide) ?_
                  exact h12106_J153 l1 l2 l3 l4 l5 l6 1  s Ia _ _ hPa hFa ho
      intro l1 l2 l3 l4 w5 w6 s Ia bc bs  hPa hFa ho
      rw [f_12106_L98] at ho
      refine us_iload hR dX11_shared_98 rfl ?_
      refine us_aload_n hR dX11_shared_100 rfl ?_
      refine us_getIx hR dX11_shared_101 fR_12_269 hE.2.1 rfl (RepM_f hPa 16) ?_
      refine us_icmp_ge hR dX11_shared_104 207 (by decide) (fun c11 => ?_) (fun c11 => ?_)
      · rw [if_pos c11] at ho
        refine us_iload_n hR dX11_shared_207 rfl ?_
        refine us_iret hR dX11_shared_208 rfl rfl ?_
        cases ho
        exact h2 _ hPa hFa
      · rw [if_neg c11] at ho
        refine us_iconstC hR dX11_shared_107 (c := 0) (by decide) ?_
        refine us_istore hR dX11_shared_108 (Nat.le_of_ble_eq_true rfl) ?_
        refine us_iconstC hR dX11_shared_110 (c := 0) (by decide) ?_
        refine us_istore hR dX11_shared_111 (Nat.le_of_ble_eq_true rfl) ?_
        exact h12106_L113 _ l1 l2 l3 l4 0 0  s Ia _ _ hPa hFa ho
  have h12106_L43 : ∀ (n : Nat) (l1 : Int32) (l2 : Int32) (l3 : Int32)  (s : Mx) (Ia : Nat → Nat → Int32) (bc bs : Nat) (hPa : RepM Ia ad s) (hFa : FrM ad I Ia) (ho : f_12106_L43 n l1 l2 l3 s = some o), R 43 [some (.ref (ad 0)), some (.int l1), some (.int l2), some (.int l3), none, none, none] [] (gW G Ia) bc bs := by
    intro n
    induction n with
    | zero => intro l1 l2 l3  s Ia bc bs  hPa hFa ho; exact absurd ho (by intro hc; cases hc)
    | succ n43 ih43 =>
      intro l1 l2 l3  s Ia bc bs  hPa hFa ho
      rw [f_12106_L43] at ho
      refine us_iload_n hR dX11_shared_43 rfl ?_
      refine us_aload_n hR dX11_shared_44 rfl ?_
      refine us_getIx hR dX11_shared_45 fR_12_269 hE.2.1 rfl (RepM_f hPa 16) ?_
      refine us_icmp_ge hR dX11_shared_48 88 (by decide) (fun c12 => ?_) (fun c12 => ?_)
      · rw [if_pos c12] at ho
        refine us_aload_n hR dX11_shared_88 rfl ?_
        refine us_iload_n hR dX11_shared_89 rfl ?_
        refine us_callV hR dX11_shared_90 (y := 12072) (by decide +kernel) (by decide) (J := i12072) rfl rfl rfl rfl hE.2.1 rfl (Nat.le_of_ble_eq_true rfl) (Nat.zero_le _) (Nat.zero_le _) ?_
        obtain ⟨s13, hs13⟩ := bOv_ex ho
        replace ho := bOv_go ho hs13
        refine sp_12072 hE hPa  hs13 (fun I13 hP13 hF13 => ?_)
        have hF13 := hFa.tr hF13
        refine us_iconstC hR dX11_shared_93 (c := 0) (by decide) ?_
        refine us_istore_n hR dX11_shared_94 (Nat.le_of_ble_eq_true rfl) ?_
        refine us_iconstC hR dX11_shared_95 (c := 0) (by decide) ?_
        refine us_istore hR dX11_shared_96 (Nat.le_of_ble_eq_true rfl) ?_
        exact h12106_L98 _ l1 l2 0 0 _ _ s13 I13 _ _ hP13 hF13 ho
      · rw [if_neg c12] at ho
        refine us_aload_n hR dX11_shared_51 rfl ?_
        refine us_getR hR dX11_shared_52 fR_12_89 hE.2.1 rfl (em_r_46 hE) ?_
        refine us_iload_n hR dX11_shared_55 rfl ?_
        refine us_aload_n hR dX11_shared_56 rfl ?_
        refine us_getR hR dX11_shared_57 fR_12_29 hE.2.1 rfl (em_r_17 hE) ?_
        refine us_iload_n hR dX11_shared_60 rfl ?_
        have hg := gd_c ho
        rw [gd_e hg] at ho
        refine us_ialoadM hE hPa (em_q_17 hE) hR dX11_shared_61 hg ?_
        have hg := gd_c ho
        rw [gd_e hg] at ho
        refine us_iastoreM hE hPa (em_q_46 hE) hR dX11_shared_62 hg (fun I14 s14 hs14 hP14 hF14 => ?_)
        rw [← hs14, bS_eq] at ho
        have hF14 := hFa.tr hF14
        refine us_aload_n hR dX11_shared_63 rfl ?_
        refine us_getR hR dX11_shared_64 fR_12_92 hE.2.1 rfl (em_r_47 hE) ?_
        refine us_iload_n hR dX11_shared_67 rfl ?_
        refine us_aload_n hR dX11_shared_68 rfl ?_
        refine us_getR hR dX11_shared_69 fR_12_32 hE.2.1 rfl (em_r_18 hE) ?_
        refine us_iload_n hR dX11_shared_72 rfl ?_
        have hg := gd_c ho
        rw [gd_e hg] at ho
        refine us_ialoadM hE hP14 (em_q_18 hE) hR dX11_shared_73 hg ?_
        have hg := gd_c ho
        rw [gd_e hg] at ho
        refine us_iastoreM hE hP14 (em_q_47 hE) hR dX11_shared_74 hg (fun I15 s15 hs15 hP15 hF15 => ?_)
        rw [← hs15, bS_eq] at ho
        have hF15 := hF14.tr hF15
        refine us_aload_n hR dX11_shared_75 rfl ?_
        refine us_getR hR dX11_shared_76 fR_12_95 hE.2.1 rfl (em_r_48 hE) ?_
        refine us_iload_n hR dX11_shared_79 rfl ?_
        refine us_iconstC hR dX11_shared_80 (c := 0) (by decide) ?_
        have hg := gd_c ho
        rw [gd_e hg] at ho
        refine us_bastoreM hE hP15 (em_q_48 hE) hR dX11_shared_81 hg (fun I16 s16 hs16 hP16 hF16 => ?_)
        rw [← hs16, bS_eq] at ho
        have hF16 := hF15.tr hF16
        refine us_iincC hR dX11_shared_82 rfl (Nat.le_of_ble_eq_true rfl) (c := 1) (by decide) ?_
        refine us_goto hR dX11_shared_85 43 (by decide) ?_
        exact ih43 l1 l2 (l3 + 1)  s16 I16 _ _ hP16 hF16 ho
  have h12106_L15 : ∀ (n : Nat) (l1 : Int32) (l2 : Int32) (l3 : Int32)  (s : Mx) (Ia : Nat → Nat → Int32) (bc bs : Nat) (hPa : RepM Ia ad s) (hFa : FrM ad I Ia) (ho : f_12106_L15 n l1 l2 l3 s = some o), R 15 [some (.ref (ad 0)), some (.int l1), some (.int l2), some (.int l3), none, none, none] [] (gW G Ia) bc bs := by
    intro n
    induction n with
    | zero => intro l1 l2 l3  s Ia bc bs  hPa hFa ho; exact absurd ho (by intro hc; cases hc)
    | succ n15 ih15 =>
      intro l1 l2 l3  s Ia bc bs  hPa hFa ho
      rw [f_12106_L15] at ho
      refine us_iload_n hR dX11_shared_15 rfl ?_
      refine us_aload_n hR dX11_shared_16 rfl ?_
      refine us_getIx hR dX11_shared_17 fR_12_263 hE.2.1 rfl (RepM_f hPa 14) ?_
      refine us_icmp_ge hR dX11_shared_20 41 (by decide) (fun c17 => ?_) (fun c17 => ?_)
      · rw [if_pos c17] at ho
        refine us_iconstC hR dX11_shared_41 (c := 0) (by decide) ?_
        refine us_istore_n hR dX11_shared_42 (Nat.le_of_ble_eq_true rfl) ?_
        exact h12106_L43 _ l1 l2 0  s Ia _ _ hPa hFa ho
      · rw [if_neg c17] at ho
        refine us_aload_n hR dX11_shared_23 rfl ?_
        refine us_getR hR dX11_shared_24 fR_12_86 hE.2.1 rfl (em_r_45 hE) ?_
        refine us_iload_n hR dX11_shared_27 rfl ?_
        refine us_aload_n hR dX11_shared_28 rfl ?_
        refine us_getR hR dX11_shared_29 fR_12_26 hE.2.1 rfl (em_r_15 hE) ?_
        refine us_iload_n hR dX11_shared_32 rfl ?_
        have hg := gd_c ho
        rw [gd_e hg] at ho
        refine us_ialoadM hE hPa (em_q_15 hE) hR dX11_shared_33 hg ?_
        have hg := gd_c ho
        rw [gd_e hg] at ho
        refine us_iastoreM hE hPa (em_q_45 hE) hR dX11_shared_34 hg (fun I18 s18 hs18 hP18 hF18 => ?_)
        rw [← hs18, bS_eq] at ho
        have hF18 := hFa.tr hF18
        refine us_iincC hR dX11_shared_35 rfl (Nat.le_of_ble_eq_true rfl) (c := 1) (by decide) ?_
        refine us_goto hR dX11_shared_38 15 (by decide) ?_
        exact ih15 l1 l2 (l3 + 1)  s18 I18 _ _ hP18 hF18 ho
  refine us_aload_n hR dX11_shared_0 rfl ?_
  refine us_iload_n hR dX11_shared_1 rfl ?_
  refine us_callV hR dX11_shared_2 (y := 12072) (by decide +kernel) (by decide) (J := i12072) rfl rfl rfl rfl hE.2.1 rfl (Nat.le_of_ble_eq_true rfl) (Nat.zero_le _) (Nat.zero_le _) ?_
  obtain ⟨s19, hs19⟩ := bOv_ex ho
  replace ho := bOv_go ho hs19
  refine sp_12072 hE hP  hs19 (fun I19 hP19 hF19 => ?_)
  have hF19 := hF.tr hF19
  refine us_aload_n hR dX11_shared_5 rfl ?_
  refine us_aload_n hR dX11_shared_6 rfl ?_
  refine us_getIx hR dX11_shared_7 fR_12_269 hE.2.1 rfl (RepM_f hP19 16) ?_
  refine us_putIM hE hP19 44 hR dX11_shared_10 fR_12_544 (Or.inl rfl) rfl rfl (fun I20 s20 hs20 hP20 hF20 => ?_)
  rw [← hs20, bS_eq] at ho
  have hF20 := hF19.tr hF20
  refine us_iconstC hR dX11_shared_13 (c := 0) (by decide) ?_
  refine us_istore_n hR dX11_shared_14 (Nat.le_of_ble_eq_true rfl) ?_
  exact h12106_L15 _ x0 x1 0  s20 I20 _ _ hP20 hF20 ho
def f_12107 (x0 : Int32) (x1 : Int32) (s : Mx) : Option (Mx × Int32) :=
  bO (f_12106 x0 x1 s) fun s1 r1 =>
  if ((mf s1 16) + (mf s1 44)) = 0 then
    some (s1, 0)
  else
    gd (¬ (((mf s1 16) + (mf s1 44)) : Int32) = 0) <|
    some (s1, ((200 * r1) / ((mf s1 16) + (mf s1 44))))
theorem sp_12107 {d : Nat} {G : ab_G} {ad : Nat → Nat} {I : Nat → Nat → Int32} {s : Mx} {P : ab_Pq} {X : ab_Xq} (hE : EM G ad) (hP : RepM I ad s) {x0 : Int32} {x1 : Int32}  {o : Mx × Int32} (ho : f_12107 x0 x1 s = some o) (h : ∀ I1, RepM I1 ad o.1 → FrM ad I I1 → P (gW G I1) (some (.int o.2))) : ab_Gam (d + 11) 12107 [.ref (ad 0), .int x0, .int x1] (gW G I) P X := by
  have h2 := h
  have hF : FrM ad I I := FrM_rfl
  unfold f_12107 at ho
  refine ab_enter (I := i12107) rfl (Nat.le_of_ble_eq_true rfl) (fun R hR => ?_)
  refine us_aload_n hR dX11_likenessOf_0 rfl ?_
  refine us_iload_n hR dX11_likenessOf_1 rfl ?_
  refine us_iload_n hR dX11_likenessOf_2 rfl ?_
  refine us_callV hR dX11_likenessOf_3 (y := 12106) (by decide +kernel) (by decide) (J := i12106) rfl rfl rfl rfl hE.2.1 rfl (Nat.le_of_ble_eq_true rfl) (Nat.zero_le _) (Nat.zero_le _) ?_
  obtain ⟨q1, hs1⟩ := bO_ex ho
  obtain ⟨s1, r1⟩ := q1
  replace ho := bO_go ho hs1
  refine sp_12106 hE hP  hs1 (fun I1 hP1 hF1 => ?_)
  have hF1 := hF.tr hF1
  refine us_istore_n hR dX11_likenessOf_6 (Nat.le_of_ble_eq_true rfl) ?_
  refine us_aload_n hR dX11_likenessOf_7 rfl ?_
  refine us_getIx hR dX11_likenessOf_8 fR_12_269 hE.2.1 rfl (RepM_f hP1 16) ?_
  refine us_aload_n hR dX11_likenessOf_11 rfl ?_
  refine us_getIx hR dX11_likenessOf_12 fR_12_544 hE.2.1 rfl (RepM_f hP1 44) ?_
  refine us_iadd hR dX11_likenessOf_15 ?_
  refine us_if_ne hR dX11_likenessOf_16 23 (by decide) (fun c2 => ?_) (fun c2 => ?_)
  · rw [if_neg c2] at ho
    refine us_sipushC hR dX11_likenessOf_23 (c := 200) (by decide) ?_
    refine us_iload_n hR dX11_likenessOf_26 rfl ?_
    refine us_imul hR dX11_likenessOf_27 ?_
    refine us_aload_n hR dX11_likenessOf_28 rfl ?_
    refine us_getIx hR dX11_likenessOf_29 fR_12_269 hE.2.1 rfl (RepM_f hP1 16) ?_
    refine us_aload_n hR dX11_likenessOf_32 rfl ?_
    refine us_getIx hR dX11_likenessOf_33 fR_12_544 hE.2.1 rfl (RepM_f hP1 44) ?_
    refine us_iadd hR dX11_likenessOf_36 ?_
    have hg := gd_c ho
    rw [gd_e hg] at ho
    refine us_idiv hR dX11_likenessOf_37 hg ?_
    refine us_iret hR dX11_likenessOf_38 rfl rfl ?_
    cases ho
    exact h2 _ hP1 hF1
  · rw [if_pos c2] at ho
    refine us_iconstC hR dX11_likenessOf_19 (c := 0) (by decide) ?_
    refine us_goto hR dX11_likenessOf_20 38 (by decide) ?_
    refine us_iret hR dX11_likenessOf_38 rfl rfl ?_
    cases ho
    exact h2 _ hP1 hF1
def f_12108_J21  (l1 : Int32) (l2 : Int32) (s : Mx) : Mx × Int32 :=
  bT (f_12003 0 1 1 s) fun s1 r1 =>
  (s1, r1)
def f_12108 (x0 : Int32) (x1 : Int32) (s : Mx) : Mx × Int32 :=
  if (f_12090 x0 s) = 0 then
    f_12108_J21 x0 x1 s
  else
    if (f_12090 x1 s) = 0 then
      f_12108_J21 x0 x1 s
    else
      bT (f_12003 1 1 1 s) fun s6 r6 =>
      (s6, r6)
theorem sp_12108 {d : Nat} {G : ab_G} {ad : Nat → Nat} {I : Nat → Nat → Int32} {s : Mx} {P : ab_Pq} {X : ab_Xq} (hE : EM G ad) (hP : RepM I ad s) {x0 : Int32} {x1 : Int32}  (h : ∀ I1 o, o = f_12108 x0 x1 s → (o.2 = 0 ∨ o.2 = 1) → RepM I1 ad o.1 → FrM ad I I1 → P (gW G I1) (some (.int o.2))) : ab_Gam (d + 3) 12108 [.ref (ad 0), .int x0, .int x1] (gW G I) P X := by
  obtain ⟨o, ho⟩ : ∃ o, o = f_12108 x0 x1 s := ⟨_, rfl⟩
  have h2 := fun I1 => h I1 o ho
  have hF : FrM ad I I := FrM_rfl
  unfold f_12108 at ho
  refine ab_enter (I := i12108) rfl (Nat.le_of_ble_eq_true rfl) (fun R hR => ?_)
  have h12108_J21 : ∀ (l1 : Int32) (l2 : Int32)  (s : Mx) (Ia : Nat → Nat → Int32) (bc bs : Nat) (hPa : RepM Ia ad s) (hFa : FrM ad I Ia) (ho : o = f_12108_J21 l1 l2 s), R 21 [some (.ref (ad 0)), some (.int l1), some (.int l2)] [.ref (ad 0)] (gW G Ia) bc bs := by
    intro l1 l2  s Ia bc bs  hPa hFa ho
    unfold f_12108_J21 at ho
    refine us_iconstC hR dX11_areAnswers_21 (c := 0) (by decide) ?_
    refine us_iconstC hR dX11_areAnswers_22 (c := 1) (by decide) ?_
    refine us_iconstC hR dX11_areAnswers_23 (c := 1) (by decide) ?_
    refine us_callV hR dX11_areAnswers_24 (y := 12003) (by decide +kernel) (by decide) (J := i12003) rfl rfl rfl rfl hE.2.1 rfl (Nat.le_of_ble_eq_true rfl) (Nat.zero_le _) (Nat.zero_le _) ?_
    refine sp_12003 hE hPa  (fun I1 q1 hs1 hb1 hP1 hF1 => ?_)
    rw [← hs1] at ho
    obtain ⟨s1, r1⟩ := q1
    rw [bT_eq] at ho
    have hF1 := hFa.tr hF1
    refine us_iret hR dX11_areAnswers_27 rfl (nar01 hb1) ?_
    subst ho
    exact h2 _ hb1 hP1 hF1
  refine us_aload_n hR dX11_areAnswers_0 rfl ?_
  refine us_aload_n hR dX11_areAnswers_1 rfl ?_
  refine us_iload_n hR dX11_areAnswers_2 rfl ?_
  refine us_callV hR dX11_areAnswers_3 (y := 12090) (by decide +kernel) (by decide) (J := i12090) rfl rfl rfl rfl hE.2.1 rfl (Nat.le_of_ble_eq_true rfl) (Nat.zero_le _) (Nat.zero_le _) ?_
  refine sp_12090 hE hP  (fun hb2 => ?_)
  refine us_if_eq hR dX11_areAnswers_6 21 (by decide) (fun c3 => ?_) (fun c3 => ?_)
  · rw [if_pos c3] at ho
    exact h12108_J21 x0 x1  s I _ _ hP hF ho
  · rw [if_neg c3] at ho
    refine us_aload_n hR dX11_areAnswers_9 rfl ?_
    refine us_iload_n hR dX11_areAnswers_10 rfl ?_
    refine us_callV hR dX11_areAnswers_11 (y := 12090) (by decide +kernel) (by decide) (J := i12090) rfl rfl rfl rfl hE.2.1 rfl (Nat.le_of_ble_eq_true rfl) (Nat.zero_le _) (Nat.zero_le _) ?_
    refine sp_12090 hE hP  (fun hb4 => ?_)
    refine us_if_eq hR dX11_areAnswers_14 21 (by decide) (fun c5 => ?_) (fun c5 => ?_)
    · rw [if_pos c5] at ho
      exact h12108_J21 x0 x1  s I _ _ hP hF ho
    · rw [if_neg c5] at ho
      refine us_iconstC hR dX11_areAnswers_17 (c := 1) (by decide) ?_
      refine us_goto hR dX11_areAnswers_18 22 (by decide) ?_
      refine us_iconstC hR dX11_areAnswers_22 (c := 1) (by decide) ?_
      refine us_iconstC hR dX11_areAnswers_23 (c := 1) (by decide) ?_
      refine us_callV hR dX11_areAnswers_24 (y := 12003) (by decide +kernel) (by decide) (J := i12003) rfl rfl rfl rfl hE.2.1 rfl (Nat.le_of_ble_eq_true rfl) (Nat.zero_le _) (Nat.zero_le _) ?_
      refine sp_12003 hE hP  (fun I6 q6 hs6 hb6 hP6 hF6 => ?_)
      rw [← hs6] at ho
      obtain ⟨s6, r6⟩ := q6
      rw [bT_eq] at ho
      have hF6 := hF.tr hF6
      refine us_iret hR dX11_areAnswers_27 rfl (nar01 hb6) ?_
      subst ho
      exact h2 _ hb6 hP6 hF6
def f_12109 (x0 : Int32) (x1 : Int32) (s : Mx) : Option (Mx × Int32) :=
  bT (f_12108 x0 x1 s) fun s1 r1 =>
  if r1 = 0 then
    some (s1, 0)
  else
    bO (f_12106 x0 x1 s1) fun s3 r3 =>
    some (s3, r3)
theorem sp_12109 {d : Nat} {G : ab_G} {ad : Nat → Nat} {I : Nat → Nat → Int32} {s : Mx} {P : ab_Pq} {X : ab_Xq} (hE : EM G ad) (hP : RepM I ad s) {x0 : Int32} {x1 : Int32}  {o : Mx × Int32} (ho : f_12109 x0 x1 s = some o) (h : ∀ I1, RepM I1 ad o.1 → FrM ad I I1 → P (gW G I1) (some (.int o.2))) : ab_Gam (d + 11) 12109 [.ref (ad 0), .int x0, .int x1] (gW G I) P X := by
  have h2 := h
  have hF : FrM ad I I := FrM_rfl
  unfold f_12109 at ho
  refine ab_enter (I := i12109) rfl (Nat.le_of_ble_eq_true rfl) (fun R hR => ?_)
  refine us_aload_n hR dX11_common_0 rfl ?_
  refine us_iload_n hR dX11_common_1 rfl ?_
  refine us_iload_n hR dX11_common_2 rfl ?_
  refine us_callV hR dX11_common_3 (y := 12108) (by decide +kernel) (by decide) (J := i12108) rfl rfl rfl rfl hE.2.1 rfl (Nat.le_of_ble_eq_true rfl) (Nat.zero_le _) (Nat.zero_le _) ?_
  refine sp_12108 hE hP  (fun I1 q1 hs1 hb1 hP1 hF1 => ?_)
  rw [← hs1] at ho
  obtain ⟨s1, r1⟩ := q1
  rw [bT_eq] at ho
  have hF1 := hF.tr hF1
  refine us_if_eq hR dX11_common_6 18 (by decide) (fun c2 => ?_) (fun c2 => ?_)
  · rw [if_pos c2] at ho
    refine us_iconstC hR dX11_common_18 (c := 0) (by decide) ?_
    refine us_iret hR dX11_common_19 rfl rfl ?_
    cases ho
    exact h2 _ hP1 hF1
  · rw [if_neg c2] at ho
    refine us_aload_n hR dX11_common_9 rfl ?_
    refine us_iload_n hR dX11_common_10 rfl ?_
    refine us_iload_n hR dX11_common_11 rfl ?_
    refine us_callV hR dX11_common_12 (y := 12106) (by decide +kernel) (by decide) (J := i12106) rfl rfl rfl rfl hE.2.1 rfl (Nat.le_of_ble_eq_true rfl) (Nat.zero_le _) (Nat.zero_le _) ?_
    obtain ⟨q3, hs3⟩ := bO_ex ho
    obtain ⟨s3, r3⟩ := q3
    replace ho := bO_go ho hs3
    refine sp_12106 hE hP1  hs3 (fun I3 hP3 hF3 => ?_)
    have hF3 := hF1.tr hF3
    refine us_goto hR dX11_common_15 19 (by decide) ?_
    refine us_iret hR dX11_common_19 rfl rfl ?_
    cases ho
    exact h2 _ hP3 hF3
def f_12110 (x0 : Int32) (x1 : Int32) (s : Mx) : Option (Mx × Int32) :=
  bT (f_12108 x0 x1 s) fun s1 r1 =>
  if r1 = 0 then
    some (s1, 0)
  else
    bO (f_12107 x0 x1 s1) fun s3 r3 =>
    some (s3, r3)
theorem sp_12110 {d : Nat} {G : ab_G} {ad : Nat → Nat} {I : Nat → Nat → Int32} {s : Mx} {P : ab_Pq} {X : ab_Xq} (hE : EM G ad) (hP : RepM I ad s) {x0 : Int32} {x1 : Int32}  {o : Mx × Int32} (ho : f_12110 x0 x1 s = some o) (h : ∀ I1, RepM I1 ad o.1 → FrM ad I I1 → P (gW G I1) (some (.int o.2))) : ab_Gam (d + 12) 12110 [.ref (ad 0), .int x0, .int x1] (gW G I) P X := by
  have h2 := h
  have hF : FrM ad I I := FrM_rfl
  unfold f_12110 at ho
  refine ab_enter (I := i12110) rfl (Nat.le_of_ble_eq_true rfl) (fun R hR => ?_)
  refine us_aload_n hR dX11_likeness_0 rfl ?_
  refine us_iload_n hR dX11_likeness_1 rfl ?_
  refine us_iload_n hR dX11_likeness_2 rfl ?_
  refine us_callV hR dX11_likeness_3 (y := 12108) (by decide +kernel) (by decide) (J := i12108) rfl rfl rfl rfl hE.2.1 rfl (Nat.le_of_ble_eq_true rfl) (Nat.zero_le _) (Nat.zero_le _) ?_
  refine sp_12108 hE hP  (fun I1 q1 hs1 hb1 hP1 hF1 => ?_)
  rw [← hs1] at ho
  obtain ⟨s1, r1⟩ := q1
  rw [bT_eq] at ho
  have hF1 := hF.tr hF1
  refine us_if_eq hR dX11_likeness_6 18 (by decide) (fun c2 => ?_) (fun c2 => ?_)
  · rw [if_pos c2] at ho
    refine us_iconstC hR dX11_likeness_18 (c := 0) (by decide) ?_
    refine us_iret hR dX11_likeness_19 rfl rfl ?_
    cases ho
    exact h2 _ hP1 hF1
  · rw [if_neg c2] at ho
    refine us_aload_n hR dX11_likeness_9 rfl ?_
    refine us_iload_n hR dX11_likeness_10 rfl ?_
    refine us_iload_n hR dX11_likeness_11 rfl ?_
    refine us_callV hR dX11_likeness_12 (y := 12107) (by decide +kernel) (by decide) (J := i12107) rfl rfl rfl rfl hE.2.1 rfl (Nat.le_of_ble_eq_true rfl) (Nat.zero_le _) (Nat.zero_le _) ?_
    obtain ⟨q3, hs3⟩ := bO_ex ho
    obtain ⟨s3, r3⟩ := q3
    replace ho := bO_go ho hs3
    refine sp_12107 hE hP1  hs3 (fun I3 hP3 hF3 => ?_)
    have hF3 := hF1.tr hF3
    refine us_goto hR dX11_likeness_15 19 (by decide) ?_
    refine us_iret hR dX11_likeness_19 rfl rfl ?_
    cases ho
    exact h2 _ hP3 hF3
def f_12111_J40  (l1 : Int32) (l2 : Int32) (k0 : Int32) (s : Mx) : Option (Mx × Int32) :=
  if k0 = 0 then
    some (s, 0)
  else
    bO (f_12107 l1 l2 s) fun s2 r2 =>
    if r2 < 80 then
      some (s2, 0)
    else
      bO (f_12106 l1 l2 s2) fun s4 r4 =>
      if r4 < 3 then
        some (s4, 0)
      else
        some (s4, 1)
def f_12111_J39  (l1 : Int32) (l2 : Int32) (s : Mx) : Option (Mx × Int32) :=
  f_12111_J40 l1 l2 0 s
def f_12111 (x0 : Int32) (x1 : Int32) (s : Mx) : Option (Mx × Int32) :=
  if x0 ≤ x1 then
    f_12111_J39 x0 x1 s
  else
    gd (vi x0 30) <|
    gd (vi x1 30) <|
    if (mg s 46 x0) = (mg s 46 x1) then
      f_12111_J39 x0 x1 s
    else
      gd (vi x0 30) <|
      gd (vi x1 30) <|
      if (mg s 47 x0) = (mg s 47 x1) then
        f_12111_J40 x0 x1 1 s
      else
        f_12111_J39 x0 x1 s
theorem sp_12111 {d : Nat} {G : ab_G} {ad : Nat → Nat} {I : Nat → Nat → Int32} {s : Mx} {P : ab_Pq} {X : ab_Xq} (hE : EM G ad) (hP : RepM I ad s) {x0 : Int32} {x1 : Int32}  {o : Mx × Int32} (ho : f_12111 x0 x1 s = some o) (h : ∀ I1, (o.2 = 0 ∨ o.2 = 1) → RepM I1 ad o.1 → FrM ad I I1 → P (gW G I1) (some (.int o.2))) : ab_Gam (d + 12) 12111 [.ref (ad 0), .int x0, .int x1] (gW G I) P X := by
  have h2 := h
  have hF : FrM ad I I := FrM_rfl
  unfold f_12111 at ho
  refine ab_enter (I := i12111) rfl (Nat.le_of_ble_eq_true rfl) (fun R hR => ?_)
  have h12111_J40 : ∀ (l1 : Int32) (l2 : Int32) (k0 : Int32)  (s : Mx) (Ia : Nat → Nat → Int32) (bc bs : Nat) (hPa : RepM Ia ad s) (hFa : FrM ad I Ia) (ho : f_12111_J40 l1 l2 k0 s = some o), R 40 [some (.ref (ad 0)), some (.int l1), some (.int l2), none] [.int k0] (gW G Ia) bc bs := by
    intro l1 l2 k0  s Ia bc bs  hPa hFa ho
    unfold f_12111_J40 at ho
    refine us_istore_n hR dX11_isDoubtful_40 (Nat.le_of_ble_eq_true rfl) ?_
    refine us_iload_n hR dX11_isDoubtful_41 rfl ?_
    refine us_if_eq hR dX11_isDoubtful_42 70 (by decide) (fun c1 => ?_) (fun c1 => ?_)
    · rw [if_pos c1] at ho
      refine us_iconstC hR dX11_isDoubtful_70 (c := 0) (by decide) ?_
      refine us_iret hR dX11_isDoubtful_71 rfl (nar01 (Or.inl rfl)) ?_
      cases ho
      exact h2 _ (Or.inl rfl) hPa hFa
    · rw [if_neg c1] at ho
      refine us_aload_n hR dX11_isDoubtful_45 rfl ?_
      refine us_iload_n hR dX11_isDoubtful_46 rfl ?_
      refine us_iload_n hR dX11_isDoubtful_47 rfl ?_
      refine us_callV hR dX11_isDoubtful_48 (y := 12107) (by decide +kernel) (by decide) (J := i12107) rfl rfl rfl rfl hE.2.1 rfl (Nat.le_of_ble_eq_true rfl) (Nat.zero_le _) (Nat.zero_le _) ?_
      obtain ⟨q2, hs2⟩ := bO_ex ho
      obtain ⟨s2, r2⟩ := q2
      replace ho := bO_go ho hs2
      refine sp_12107 hE hPa  hs2 (fun I2 hP2 hF2 => ?_)
      have hF2 := hFa.tr hF2
      refine us_bipushC hR dX11_isDoubtful_51 (c := 80) (by decide) ?_
      refine us_icmp_lt hR dX11_isDoubtful_53 70 (by decide) (fun c3 => ?_) (fun c3 => ?_)
      · rw [if_pos c3] at ho
        refine us_iconstC hR dX11_isDoubtful_70 (c := 0) (by decide) ?_
        refine us_iret hR dX11_isDoubtful_71 rfl (nar01 (Or.inl rfl)) ?_
        cases ho
        exact h2 _ (Or.inl rfl) hP2 hF2
      · rw [if_neg c3] at ho
        refine us_aload_n hR dX11_isDoubtful_56 rfl ?_
        refine us_iload_n hR dX11_isDoubtful_57 rfl ?_
        refine us_iload_n hR dX11_isDoubtful_58 rfl ?_
        refine us_callV hR dX11_isDoubtful_59 (y := 12106) (by decide +kernel) (by decide) (J := i12106) rfl rfl rfl rfl hE.2.1 rfl (Nat.le_of_ble_eq_true rfl) (Nat.zero_le _) (Nat.zero_le _) ?_
        obtain ⟨q4, hs4⟩ := bO_ex ho
        obtain ⟨s4, r4⟩ := q4
        replace ho := bO_go ho hs4
        refine sp_12106 hE hP2  hs4 (fun I4 hP4 hF4 => ?_)
        have hF4 := hF2.tr hF4
        refine us_iconstC hR dX11_isDoubtful_62 (c := 3) (by decide) ?_
        refine us_icmp_lt hR dX11_isDoubtful_63 70 (by decide) (fun c5 => ?_) (fun c5 => ?_)
        · rw [if_pos c5] at ho
          refine us_iconstC hR dX11_isDoubtful_70 (c := 0) (by decide) ?_
          refine us_iret hR dX11_isDoubtful_71 rfl (nar01 (Or.inl rfl)) ?_
          cases ho
          exact h2 _ (Or.inl rfl) hP4 hF4
        · rw [if_neg c5] at ho
          refine us_iconstC hR dX11_isDoubtful_66 (c := 1) (by decide) ?_
          refine us_goto hR dX11_isDoubtful_67 71 (by decide) ?_
          refine us_iret hR dX11_isDoubtful_71 rfl (nar01 (Or.inr rfl)) ?_
          cases ho
          exact h2 _ (Or.inr rfl) hP4 hF4
  have h12111_J39 : ∀ (l1 : Int32) (l2 : Int32)  (s : Mx) (Ia : Nat → Nat → Int32) (bc bs : Nat) (hPa : RepM Ia ad s) (hFa : FrM ad I Ia) (ho : f_12111_J39 l1 l2 s = some o), R 39 [some (.ref (ad 0)), some (.int l1), some (.int l2), none] [] (gW G Ia) bc bs := by
    intro l1 l2  s Ia bc bs  hPa hFa ho
    unfold f_12111_J39 at ho
    refine us_iconstC hR dX11_isDoubtful_39 (c := 0) (by decide) ?_
    exact h12111_J40 l1 l2 0  s Ia _ _ hPa hFa ho
  refine us_iload_n hR dX11_isDoubtful_0 rfl ?_
  refine us_iload_n hR dX11_isDoubtful_1 rfl ?_
  refine us_icmp_ge hR dX11_isDoubtful_2 39 (by decide) (fun c6 => ?_) (fun c6 => ?_)
  · rw [if_pos c6] at ho
    exact h12111_J39 x0 x1  s I _ _ hP hF ho
  · rw [if_neg c6] at ho
    refine us_aload_n hR dX11_isDoubtful_5 rfl ?_
    refine us_getR hR dX11_isDoubtful_6 fR_12_147 hE.2.1 rfl (em_r_76 hE) ?_
    refine us_iload_n hR dX11_isDoubtful_9 rfl ?_
    have hg := gd_c ho
    rw [gd_e hg] at ho
    refine us_ialoadM hE hP (em_q_76 hE) hR dX11_isDoubtful_10 hg ?_
    refine us_aload_n hR dX11_isDoubtful_11 rfl ?_
    refine us_getR hR dX11_isDoubtful_12 fR_12_147 hE.2.1 rfl (em_r_76 hE) ?_
    refine us_iload_n hR dX11_isDoubtful_15 rfl ?_
    have hg := gd_c ho
    rw [gd_e hg] at ho
    refine us_ialoadM hE hP (em_q_76 hE) hR dX11_isDoubtful_16 hg ?_
    refine us_icmp_eq hR dX11_isDoubtful_17 39 (by decide) (fun c7 => ?_) (fun c7 => ?_)
    · rw [if_pos c7] at ho
      exact h12111_J39 x0 x1  s I _ _ hP hF ho
    · rw [if_neg c7] at ho
      refine us_aload_n hR dX11_isDoubtful_20 rfl ?_
      refine us_getR hR dX11_isDoubtful_21 fR_12_150 hE.2.1 rfl (em_r_77 hE) ?_
      refine us_iload_n hR dX11_isDoubtful_24 rfl ?_
      have hg := gd_c ho
      rw [gd_e hg] at ho
      refine us_ialoadM hE hP (em_q_77 hE) hR dX11_isDoubtful_25 hg ?_
      refine us_aload_n hR dX11_isDoubtful_26 rfl ?_
      refine us_getR hR dX11_isDoubtful_27 fR_12_150 hE.2.1 rfl (em_r_77 hE) ?_
      refine us_iload_n hR dX11_isDoubtful_30 rfl ?_
      have hg := gd_c ho
      rw [gd_e hg] at ho
      refine us_ialoadM hE hP (em_q_77 hE) hR dX11_isDoubtful_31 hg ?_
      refine us_icmp_ne hR dX11_isDoubtful_32 39 (by decide) (fun c8 => ?_) (fun c8 => ?_)
      · rw [if_neg c8] at ho
        exact h12111_J39 x0 x1  s I _ _ hP hF ho
      · rw [if_pos c8] at ho
        refine us_iconstC hR dX11_isDoubtful_35 (c := 1) (by decide) ?_
        refine us_goto hR dX11_isDoubtful_36 40 (by decide) ?_
        exact h12111_J40 x0 x1 1  s I _ _ hP hF ho
def f_12112_J51  (l1 : Int32) (l2 : Int32) (l3 : Int32) (k0 : Int32) (k1 : Int32) (s : Mx) : Option (Mx × Int32) :=
  bT (f_12003 k1 k0 1 s) fun s1 r1 =>
  if r1 = 0 then
    some (s1, 0)
  else
    bP (f_12098 l1 s1) fun r3 =>
    gd (vi l1 30) <|
    bS (ms s1 49 l1 (vp_nar .boolean 1)) fun s4 =>
    some (s4, r3)
def f_12112_J50  (l1 : Int32) (l2 : Int32) (l3 : Int32) (k0 : Int32) (s : Mx) : Option (Mx × Int32) :=
  f_12112_J51 l1 l2 l3 0 k0 s
def f_12112_J21  (l1 : Int32) (l2 : Int32) (k0 : Int32) (s : Mx) : Option (Mx × Int32) :=
  if k0 = 0 then
    f_12112_J50 l1 l2 k0 k0 s
  else
    gd (vi l1 30) <|
    if (mg s 49 l1) = 0 then
      bO (f_12111 l1 l2 s) fun s7 r7 =>
      if r7 = 0 then
        f_12112_J50 l1 l2 k0 k0 s7
      else
        f_12112_J51 l1 l2 k0 1 k0 s7
    else
      f_12112_J50 l1 l2 k0 k0 s
def f_12112_J20  (l1 : Int32) (l2 : Int32) (s : Mx) : Option (Mx × Int32) :=
  f_12112_J21 l1 l2 0 s
def f_12112 (x0 : Int32) (x1 : Int32) (s : Mx) : Option (Mx × Int32) :=
  if (f_12090 x0 s) = 0 then
    f_12112_J20 x0 x1 s
  else
    if (f_12090 x1 s) = 0 then
      f_12112_J20 x0 x1 s
    else
      f_12112_J21 x0 x1 1 s
theorem sp_12112 {d : Nat} {G : ab_G} {ad : Nat → Nat} {I : Nat → Nat → Int32} {s : Mx} {P : ab_Pq} {X : ab_Xq} (hE : EM G ad) (hP : RepM I ad s) {x0 : Int32} {x1 : Int32}  {o : Mx × Int32} (ho : f_12112 x0 x1 s = some o) (h : ∀ I1, RepM I1 ad o.1 → FrM ad I I1 → P (gW G I1) (some (.int o.2))) : ab_Gam (d + 13) 12112 [.ref (ad 0), .int x0, .int x1] (gW G I) P X := by
  have h2 := h
  have hF : FrM ad I I := FrM_rfl
  unfold f_12112 at ho
  refine ab_enter (I := i12112) rfl (Nat.le_of_ble_eq_true rfl) (fun R hR => ?_)
  have h12112_J51 : ∀ (l1 : Int32) (l2 : Int32) (l3 : Int32) (k0 : Int32) (k1 : Int32)  (s : Mx) (Ia : Nat → Nat → Int32) (bc bs : Nat) (hPa : RepM Ia ad s) (hFa : FrM ad I Ia) (ho : f_12112_J51 l1 l2 l3 k0 k1 s = some o), R 51 [some (.ref (ad 0)), some (.int l1), some (.int l2), some (.int l3), none] [.int k0, .int k1, .ref (ad 0)] (gW G Ia) bc bs := by
    intro l1 l2 l3 k0 k1  s Ia bc bs  hPa hFa ho
    unfold f_12112_J51 at ho
    refine us_iconstC hR dX11_accuse_51 (c := 1) (by decide) ?_
    refine us_callV hR dX11_accuse_52 (y := 12003) (by decide +kernel) (by decide) (J := i12003) rfl rfl rfl rfl hE.2.1 rfl (Nat.le_of_ble_eq_true rfl) (Nat.zero_le _) (Nat.zero_le _) ?_
    refine sp_12003 hE hPa  (fun I1 q1 hs1 hb1 hP1 hF1 => ?_)
    rw [← hs1] at ho
    obtain ⟨s1, r1⟩ := q1
    rw [bT_eq] at ho
    have hF1 := hFa.tr hF1
    refine us_if_ne hR dX11_accuse_55 60 (by decide) (fun c2 => ?_) (fun c2 => ?_)
    · rw [if_neg c2] at ho
      refine us_aload_n hR dX11_accuse_60 rfl ?_
      refine us_iload_n hR dX11_accuse_61 rfl ?_
      refine us_callV hR dX11_accuse_62 (y := 12098) (by decide +kernel) (by decide) (J := i12098) rfl rfl rfl rfl hE.2.1 rfl (Nat.le_of_ble_eq_true rfl) (Nat.zero_le _) (Nat.zero_le _) ?_
      obtain ⟨r3, hr3⟩ := bP_ex ho
      replace ho := bP_go ho hr3
      refine sp_12098 hE hP1  hr3 ?_
      refine us_istore hR dX11_accuse_65 (Nat.le_of_ble_eq_true rfl) ?_
      refine us_aload_n hR dX11_accuse_67 rfl ?_
      refine us_getR hR dX11_accuse_68 fR_12_156 hE.2.1 rfl (em_r_79 hE) ?_
      refine us_iload_n hR dX11_accuse_71 rfl ?_
      refine us_iconstC hR dX11_accuse_72 (c := 1) (by decide) ?_
      have hg := gd_c ho
      rw [gd_e hg] at ho
      refine us_bastoreM hE hP1 (em_q_79 hE) hR dX11_accuse_73 hg (fun I4 s4 hs4 hP4 hF4 => ?_)
      rw [← hs4, bS_eq] at ho
      have hF4 := hF1.tr hF4
      refine us_iload hR dX11_accuse_74 rfl ?_
      refine us_iret hR dX11_accuse_76 rfl rfl ?_
      cases ho
      exact h2 _ hP4 hF4
    · rw [if_pos c2] at ho
      refine us_iconstC hR dX11_accuse_58 (c := 0) (by decide) ?_
      refine us_iret hR dX11_accuse_59 rfl rfl ?_
      cases ho
      exact h2 _ hP1 hF1
  have h12112_J50 : ∀ (l1 : Int32) (l2 : Int32) (l3 : Int32) (k0 : Int32)  (s : Mx) (Ia : Nat → Nat → Int32) (bc bs : Nat) (hPa : RepM Ia ad s) (hFa : FrM ad I Ia) (ho : f_12112_J50 l1 l2 l3 k0 s = some o), R 50 [some (.ref (ad 0)), some (.int l1), some (.int l2), some (.int l3), none] [.int k0, .ref (ad 0)] (gW G Ia) bc bs := by
    intro l1 l2 l3 k0  s Ia bc bs  hPa hFa ho
    unfold f_12112_J50 at ho
    refine us_iconstC hR dX11_accuse_50 (c := 0) (by decide) ?_
    exact h12112_J51 l1 l2 l3 0 k0  s Ia _ _ hPa hFa ho
  have h12112_J21 : ∀ (l1 : Int32) (l2 : Int32) (k0 : Int32)  (s : Mx) (Ia : Nat → Nat → Int32) (bc bs : Nat) (hPa : RepM Ia ad s) (hFa : FrM ad I Ia) (ho : f_12112_J21 l1 l2 k0 s = some o), R 21 [some (.ref (ad 0)), some (.int l1), some (.int l2), none, none] [.int k0] (gW G Ia) bc bs := by
    intro l1 l2 k0  s Ia bc bs  hPa hFa ho
    unfold f_12112_J21 at ho
    refine us_istore_n hR dX11_accuse_21 (Nat.le_of_ble_eq_true rfl) ?_
    refine us_aload_n hR dX11_accuse_22 rfl ?_
    refine us_iload_n hR dX11_accuse_23 rfl ?_
    refine us_iload_n hR dX11_accuse_24 rfl ?_
    refine us_if_eq hR dX11_accuse_25 50 (by decide) (fun c5 => ?_) (fun c5 => ?_)
    · rw [if_pos c5] at ho
      exact h12112_J50 l1 l2 k0 k0  s Ia _ _ hPa hFa ho
    · rw [if_neg c5] at ho
      refine us_aload_n hR dX11_accuse_28 rfl ?_
      refine us_getR hR dX11_accuse_29 fR_12_156 hE.2.1 rfl (em_r_79 hE) ?_
      refine us_iload_n hR dX11_accuse_32 rfl ?_
      have hg := gd_c ho
      rw [gd_e hg] at ho
      refine us_baloadM hE hPa (em_q_79 hE) hR dX11_accuse_33 hg ?_
      refine us_if_ne hR dX11_accuse_34 50 (by decide) (fun c6 => ?_) (fun c6 => ?_)
      · rw [if_neg c6] at ho
        exact h12112_J50 l1 l2 k0 k0  s Ia _ _ hPa hFa ho
      · rw [if_pos c6] at ho
        refine us_aload_n hR dX11_accuse_37 rfl ?_
        refine us_iload_n hR dX11_accuse_38 rfl ?_
        refine us_iload_n hR dX11_accuse_39 rfl ?_
        refine us_callV hR dX11_accuse_40 (y := 12111) (by decide +kernel) (by decide) (J := i12111) rfl rfl rfl rfl hE.2.1 rfl (Nat.le_of_ble_eq_true rfl) (Nat.zero_le _) (Nat.zero_le _) ?_
        obtain ⟨q7, hs7⟩ := bO_ex ho
        obtain ⟨s7, r7⟩ := q7
        replace ho := bO_go ho hs7
        refine sp_12111 hE hPa  hs7 (fun I7 hb7 hP7 hF7 => ?_)
        have hF7 := hFa.tr hF7
        refine us_if_eq hR dX11_accuse_43 50 (by decide) (fun c8 => ?_) (fun c8 => ?_)
        · rw [if_pos c8] at ho
          exact h12112_J50 l1 l2 k0 k0  s7 I7 _ _ hP7 hF7 ho
        · rw [if_neg c8] at ho
          refine us_iconstC hR dX11_accuse_46 (c := 1) (by decide) ?_
          refine us_goto hR dX11_accuse_47 51 (by decide) ?_
          exact h12112_J51 l1 l2 k0 1 k0  s7 I7 _ _ hP7 hF7 ho
  have h12112_J20 : ∀ (l1 : Int32) (l2 : Int32)  (s : Mx) (Ia : Nat → Nat → Int32) (bc bs : Nat) (hPa : RepM Ia ad s) (hFa : FrM ad I Ia) (ho : f_12112_J20 l1 l2 s = some o), R 20 [some (.ref (ad 0)), some (.int l1), some (.int l2), none, none] [] (gW G Ia) bc bs := by
    intro l1 l2  s Ia bc bs  hPa hFa ho
    unfold f_12112_J20 at ho
    refine us_iconstC hR dX11_accuse_20 (c := 0) (by decide) ?_
    exact h12112_J21 l1 l2 0  s Ia _ _ hPa hFa ho
  refine us_aload_n hR dX11_accuse_0 rfl ?_
  refine us_iload_n hR dX11_accuse_1 rfl ?_
  refine us_callV hR dX11_accuse_2 (y := 12090) (by decide +kernel) (by decide) (J := i12090) rfl rfl rfl rfl hE.2.1 rfl (Nat.le_of_ble_eq_true rfl) (Nat.zero_le _) (Nat.zero_le _) ?_
  refine sp_12090 hE hP  (fun hb9 => ?_)
  refine us_if_eq hR dX11_accuse_5 20 (by decide) (fun c10 => ?_) (fun c10 => ?_)
  · rw [if_pos c10] at ho
    exact h12112_J20 x0 x1  s I _ _ hP hF ho
  · rw [if_neg c10] at ho
    refine us_aload_n hR dX11_accuse_8 rfl ?_
    refine us_iload_n hR dX11_accuse_9 rfl ?_
    refine us_callV hR dX11_accuse_10 (y := 12090) (by decide +kernel) (by decide) (J := i12090) rfl rfl rfl rfl hE.2.1 rfl (Nat.le_of_ble_eq_true rfl) (Nat.zero_le _) (Nat.zero_le _) ?_
    refine sp_12090 hE hP  (fun hb11 => ?_)
    refine us_if_eq hR dX11_accuse_13 20 (by decide) (fun c12 => ?_) (fun c12 => ?_)
    · rw [if_pos c12] at ho
      exact h12112_J20 x0 x1  s I _ _ hP hF ho
    · rw [if_neg c12] at ho
      refine us_iconstC hR dX11_accuse_16 (c := 1) (by decide) ?_
      refine us_goto hR dX11_accuse_17 21 (by decide) ?_
      exact h12112_J21 x0 x1 1  s I _ _ hP hF ho
def f_12113_J26  (l1 : Int32) (l2 : Int32) (k0 : Int32) (k1 : Int32) (s : Mx) : Option (Mx × Int32) :=
  bT (f_12003 k1 k0 1 s) fun s1 r1 =>
  if r1 = 0 then
    some (s1, 0)
  else
    gd (vi l1 30) <|
    bS (ms s1 49 l1 (vp_nar .boolean 0)) fun s3 =>
    bP (f_12098 l1 s3) fun r4 =>
    some (s3, r4)
def f_12113_J25  (l1 : Int32) (l2 : Int32) (k0 : Int32) (s : Mx) : Option (Mx × Int32) :=
  f_12113_J26 l1 l2 0 k0 s
def f_12113 (x0 : Int32) (s : Mx) : Option (Mx × Int32) :=
  if (f_12090 x0 s) = 0 then
    f_12113_J25 x0 (f_12090 x0 s) (f_12090 x0 s) s
  else
    gd (vi x0 30) <|
    if (mg s 49 x0) = 0 then
      f_12113_J25 x0 (f_12090 x0 s) (f_12090 x0 s) s
    else
      f_12113_J26 x0 (f_12090 x0 s) 1 (f_12090 x0 s) s
theorem sp_12113 {d : Nat} {G : ab_G} {ad : Nat → Nat} {I : Nat → Nat → Int32} {s : Mx} {P : ab_Pq} {X : ab_Xq} (hE : EM G ad) (hP : RepM I ad s) {x0 : Int32}  {o : Mx × Int32} (ho : f_12113 x0 s = some o) (h : ∀ I1, RepM I1 ad o.1 → FrM ad I I1 → P (gW G I1) (some (.int o.2))) : ab_Gam (d + 3) 12113 [.ref (ad 0), .int x0] (gW G I) P X := by
  have h2 := h
  have hF : FrM ad I I := FrM_rfl
  unfold f_12113 at ho
  refine ab_enter (I := i12113) rfl (Nat.le_of_ble_eq_true rfl) (fun R hR => ?_)
  have h12113_J26 : ∀ (l1 : Int32) (l2 : Int32) (k0 : Int32) (k1 : Int32)  (s : Mx) (Ia : Nat → Nat → Int32) (bc bs : Nat) (hPa : RepM Ia ad s) (hFa : FrM ad I Ia) (ho : f_12113_J26 l1 l2 k0 k1 s = some o), R 26 [some (.ref (ad 0)), some (.int l1), some (.int l2)] [.int k0, .int k1, .ref (ad 0)] (gW G Ia) bc bs := by
    intro l1 l2 k0 k1  s Ia bc bs  hPa hFa ho
    unfold f_12113_J26 at ho
    refine us_iconstC hR dX11_clear_26 (c := 1) (by decide) ?_
    refine us_callV hR dX11_clear_27 (y := 12003) (by decide +kernel) (by decide) (J := i12003) rfl rfl rfl rfl hE.2.1 rfl (Nat.le_of_ble_eq_true rfl) (Nat.zero_le _) (Nat.zero_le _) ?_
    refine sp_12003 hE hPa  (fun I1 q1 hs1 hb1 hP1 hF1 => ?_)
    rw [← hs1] at ho
    obtain ⟨s1, r1⟩ := q1
    rw [bT_eq] at ho
    have hF1 := hFa.tr hF1
    refine us_if_ne hR dX11_clear_30 35 (by decide) (fun c2 => ?_) (fun c2 => ?_)
    · rw [if_neg c2] at ho
      refine us_aload_n hR dX11_clear_35 rfl ?_
      refine us_getR hR dX11_clear_36 fR_12_156 hE.2.1 rfl (em_r_79 hE) ?_
      refine us_iload_n hR dX11_clear_39 rfl ?_
      refine us_iconstC hR dX11_clear_40 (c := 0) (by decide) ?_
      have hg := gd_c ho
      rw [gd_e hg] at ho
      refine us_bastoreM hE hP1 (em_q_79 hE) hR dX11_clear_41 hg (fun I3 s3 hs3 hP3 hF3 => ?_)
      rw [← hs3, bS_eq] at ho
      have hF3 := hF1.tr hF3
      refine us_aload_n hR dX11_clear_42 rfl ?_
      refine us_iload_n hR dX11_clear_43 rfl ?_
      refine us_callV hR dX11_clear_44 (y := 12098) (by decide +kernel) (by decide) (J := i12098) rfl rfl rfl rfl hE.2.1 rfl (Nat.le_of_ble_eq_true rfl) (Nat.zero_le _) (Nat.zero_le _) ?_
      obtain ⟨r4, hr4⟩ := bP_ex ho
      replace ho := bP_go ho hr4
      refine sp_12098 hE hP3  hr4 ?_
      refine us_iret hR dX11_clear_47 rfl rfl ?_
      cases ho
      exact h2 _ hP3 hF3
    · rw [if_pos c2] at ho
      refine us_iconstC hR dX11_clear_33 (c := 0) (by decide) ?_
      refine us_iret hR dX11_clear_34 rfl rfl ?_
      cases ho
      exact h2 _ hP1 hF1
  have h12113_J25 : ∀ (l1 : Int32) (l2 : Int32) (k0 : Int32)  (s : Mx) (Ia : Nat → Nat → Int32) (bc bs : Nat) (hPa : RepM Ia ad s) (hFa : FrM ad I Ia) (ho : f_12113_J25 l1 l2 k0 s = some o), R 25 [some (.ref (ad 0)), some (.int l1), some (.int l2)] [.int k0, .ref (ad 0)] (gW G Ia) bc bs := by
    intro l1 l2 k0  s Ia bc bs  hPa hFa ho
    unfold f_12113_J25 at ho
    refine us_iconstC hR dX11_clear_25 (c := 0) (by decide) ?_
    exact h12113_J26 l1 l2 0 k0  s Ia _ _ hPa hFa ho
  refine us_aload_n hR dX11_clear_0 rfl ?_
  refine us_iload_n hR dX11_clear_1 rfl ?_
  refine us_callV hR dX11_clear_2 (y := 12090) (by decide +kernel) (by decide) (J := i12090) rfl rfl rfl rfl hE.2.1 rfl (Nat.le_of_ble_eq_true rfl) (Nat.zero_le _) (Nat.zero_le _) ?_
  refine sp_12090 hE hP  (fun hb5 => ?_)
  refine us_istore_n hR dX11_clear_5 (Nat.le_of_ble_eq_true rfl) ?_
  refine us_aload_n hR dX11_clear_6 rfl ?_
  refine us_iload_n hR dX11_clear_7 rfl ?_
  refine us_iload_n hR dX11_clear_8 rfl ?_
  refine us_if_eq hR dX11_clear_9 25 (by decide) (fun c6 => ?_) (fun c6 => ?_)
  · rw [if_pos c6] at ho
    exact h12113_J25 x0 (f_12090 x0 s) (f_12090 x0 s)  s I _ _ hP hF ho
  · rw [if_neg c6] at ho
    refine us_aload_n hR dX11_clear_12 rfl ?_
    refine us_getR hR dX11_clear_13 fR_12_156 hE.2.1 rfl (em_r_79 hE) ?_
    refine us_iload_n hR dX11_clear_16 rfl ?_
    have hg := gd_c ho
    rw [gd_e hg] at ho
    refine us_baloadM hE hP (em_q_79 hE) hR dX11_clear_17 hg ?_
    refine us_if_eq hR dX11_clear_18 25 (by decide) (fun c7 => ?_) (fun c7 => ?_)
    · rw [if_pos c7] at ho
      exact h12113_J25 x0 (f_12090 x0 s) (f_12090 x0 s)  s I _ _ hP hF ho
    · rw [if_neg c7] at ho
      refine us_iconstC hR dX11_clear_21 (c := 1) (by decide) ?_
      refine us_goto hR dX11_clear_22 26 (by decide) ?_
      exact h12113_J26 x0 (f_12090 x0 s) 1 (f_12090 x0 s)  s I _ _ hP hF ho
def f_12114_L22  : Nat → Int32 → Int32 → Int32 → Mx → Option (Mx × Int32)
  | 0, _, _, _, _ => none
  | n + 1, l1, l2, l3, s =>
    if l3 < 0 then
      some (s, l2)
    else
      bO (f_12111 l1 l3 s) fun s2 r2 =>
      if r2 = 0 then
        f_12114_L22 n l1 l2 (l3 + (-1)) s2
      else
        f_12114_L22 n l1 l3 (l3 + (-1)) s2
def f_12114 (x0 : Int32) (s : Mx) : Option (Mx × Int32) :=
  bT (f_12003 (f_12090 x0 s) 1 1 s) fun s5 r5 =>
  if r5 = 0 then
    some (s5, 0)
  else
    f_12114_L22 1000 x0 (-1) (x0 - 1) s5
theorem sp_12114 {d : Nat} {G : ab_G} {ad : Nat → Nat} {I : Nat → Nat → Int32} {s : Mx} {P : ab_Pq} {X : ab_Xq} (hE : EM G ad) (hP : RepM I ad s) {x0 : Int32}  {o : Mx × Int32} (ho : f_12114 x0 s = some o) (h : ∀ I1, RepM I1 ad o.1 → FrM ad I I1 → P (gW G I1) (some (.int o.2))) : ab_Gam (d + 13) 12114 [.ref (ad 0), .int x0] (gW G I) P X := by
  have h2 := h
  have hF : FrM ad I I := FrM_rfl
  unfold f_12114 at ho
  refine ab_enter (I := i12114) rfl (Nat.le_of_ble_eq_true rfl) (fun R hR => ?_)
  have h12114_L22 : ∀ (n : Nat) (l1 : Int32) (l2 : Int32) (l3 : Int32)  (s : Mx) (Ia : Nat → Nat → Int32) (bc bs : Nat) (hPa : RepM Ia ad s) (hFa : FrM ad I Ia) (ho : f_12114_L22 n l1 l2 l3 s = some o), R 22 [some (.ref (ad 0)), some (.int l1), some (.int l2), some (.int l3)] [] (gW G Ia) bc bs := by
    intro n
    induction n with
    | zero => intro l1 l2 l3  s Ia bc bs  hPa hFa ho; exact absurd ho (by intro hc; cases hc)
    | succ n22 ih22 =>
      intro l1 l2 l3  s Ia bc bs  hPa hFa ho
      rw [f_12114_L22] at ho
      refine us_iload_n hR dX11_doubt_22 rfl ?_
      refine us_if_lt hR dX11_doubt_23 47 (by decide) (fun c1 => ?_) (fun c1 => ?_)
      · rw [if_pos c1] at ho
        refine us_iload_n hR dX11_doubt_47 rfl ?_
        refine us_iret hR dX11_doubt_48 rfl rfl ?_
        cases ho
        exact h2 _ hPa hFa
      · rw [if_neg c1] at ho
        refine us_aload_n hR dX11_doubt_26 rfl ?_
        refine us_iload_n hR dX11_doubt_27 rfl ?_
        refine us_iload_n hR dX11_doubt_28 rfl ?_
        refine us_callV hR dX11_doubt_29 (y := 12111) (by decide +kernel) (by decide) (J := i12111) rfl rfl rfl rfl hE.2.1 rfl (Nat.le_of_ble_eq_true rfl) (Nat.zero_le _) (Nat.zero_le _) ?_
        obtain ⟨q2, hs2⟩ := bO_ex ho
        obtain ⟨s2, r2⟩ := q2
        replace ho := bO_go ho hs2
        refine sp_12111 hE hPa  hs2 (fun I2 hb2 hP2 hF2 => ?_)
        have hF2 := hFa.tr hF2
        refine us_if_eq hR dX11_doubt_32 39 (by decide) (fun c3 => ?_) (fun c3 => ?_)
        · rw [if_pos c3] at ho
          refine us_iload_n hR dX11_doubt_39 rfl ?_
          refine us_istore_n hR dX11_doubt_40 (Nat.le_of_ble_eq_true rfl) ?_
          refine us_iincC hR dX11_doubt_41 rfl (Nat.le_of_ble_eq_true rfl) (c := (-1)) (by decide) ?_
          refine us_goto hR dX11_doubt_44 22 (by decide) ?_
          exact ih22 l1 l2 (l3 + (-1))  s2 I2 _ _ hP2 hF2 ho
        · rw [if_neg c3] at ho
          refine us_iload_n hR dX11_doubt_35 rfl ?_
          refine us_goto hR dX11_doubt_36 40 (by decide) ?_
          refine us_istore_n hR dX11_doubt_40 (Nat.le_of_ble_eq_true rfl) ?_
          refine us_iincC hR dX11_doubt_41 rfl (Nat.le_of_ble_eq_true rfl) (c := (-1)) (by decide) ?_
          refine us_goto hR dX11_doubt_44 22 (by decide) ?_
          exact ih22 l1 l3 (l3 + (-1))  s2 I2 _ _ hP2 hF2 ho
  refine us_aload_n hR dX11_doubt_0 rfl ?_
  refine us_aload_n hR dX11_doubt_1 rfl ?_
  refine us_iload_n hR dX11_doubt_2 rfl ?_
  refine us_callV hR dX11_doubt_3 (y := 12090) (by decide +kernel) (by decide) (J := i12090) rfl rfl rfl rfl hE.2.1 rfl (Nat.le_of_ble_eq_true rfl) (Nat.zero_le _) (Nat.zero_le _) ?_
  refine sp_12090 hE hP  (fun hb4 => ?_)
  refine us_iconstC hR dX11_doubt_6 (c := 1) (by decide) ?_
  refine us_iconstC hR dX11_doubt_7 (c := 1) (by decide) ?_
  refine us_callV hR dX11_doubt_8 (y := 12003) (by decide +kernel) (by decide) (J := i12003) rfl rfl rfl rfl hE.2.1 rfl (Nat.le_of_ble_eq_true rfl) (Nat.zero_le _) (Nat.zero_le _) ?_
  refine sp_12003 hE hP  (fun I5 q5 hs5 hb5 hP5 hF5 => ?_)
  rw [← hs5] at ho
  obtain ⟨s5, r5⟩ := q5
  rw [bT_eq] at ho
  have hF5 := hF.tr hF5
  refine us_if_ne hR dX11_doubt_11 16 (by decide) (fun c6 => ?_) (fun c6 => ?_)
  · rw [if_neg c6] at ho
    refine us_iconstC hR dX11_doubt_16 (c := (-1)) (by decide) ?_
    refine us_istore_n hR dX11_doubt_17 (Nat.le_of_ble_eq_true rfl) ?_
    refine us_iload_n hR dX11_doubt_18 rfl ?_
    refine us_iconstC hR dX11_doubt_19 (c := 1) (by decide) ?_
    refine us_isub hR dX11_doubt_20 ?_
    refine us_istore_n hR dX11_doubt_21 (Nat.le_of_ble_eq_true rfl) ?_
    exact h12114_L22 _ x0 (-1) (x0 - 1)  s5 I5 _ _ hP5 hF5 ho
  · rw [if_pos c6] at ho
    refine us_iconstC hR dX11_doubt_14 (c := 0) (by decide) ?_
    refine us_iret hR dX11_doubt_15 rfl rfl ?_
    cases ho
    exact h2 _ hP5 hF5
