/-! shadows over the plain heap: the school -/
noncomputable section
def h_11035 (x0 : Int64) (x1 : Int32) (T : Tx) : Option Int32 :=
  some ((((x0.toUInt64 >>> ((8 * x1).toInt64.toUInt64 &&& Int64.toUInt64 63)).toInt64 &&& 255).toInt32))
theorem sh_11035 {F : Nat → Prop} {d : Nat} {G : ab_G} {T : Tx} {P : ab_Pq} {X : ab_Xq} (h2 : Rep2 F G T) {x0 : Int64} {x1 : Int32} {o : Int32} (ho : h_11035 x0 x1 T = some o) (h : P G (some (.int o))) : ab_Gam (d + 1) 11035 [.long x0, .int x1] G P X := by
  have hF : SameF F G G := SameF_rfl
  unfold h_11035 at ho
  refine ab_enter (I := i11035) rfl (Nat.le_of_ble_eq_true rfl) (fun R hR => ?_)
  refine us_lload_n hR dX10_byteOf_0 rfl ?_
  refine us_bipushC hR dX10_byteOf_1 (c := 8) (by decide) ?_
  refine us_iload_n hR dX10_byteOf_3 rfl ?_
  refine us_imul hR dX10_byteOf_4 ?_
  refine us_lushr hR dX10_byteOf_5 ?_
  refine us_ldc2_w hR dX10_byteOf_6 (v := 255) (by decide +kernel) ?_
  refine us_land hR dX10_byteOf_9 ?_
  refine us_l2i hR dX10_byteOf_10 ?_
  refine us_iret hR dX10_byteOf_11 rfl rfl ?_
  cases ho
  exact h
def h_11036 (x0 : Int32) (T : Tx) : Option (Nat ⊕ Unit) :=
  if x0 < 0 then
    some (.inl 1)
  else
    if x0 ≤ 5000 then
      some (.inr ())
    else
      some (.inl 1)
theorem sh_11036 {F : Nat → Prop} {d : Nat} {G : ab_G} {T : Tx} {P : ab_Pq} {X : ab_Xq} (h2 : Rep2 F G T) {x0 : Int32} {o : (Nat ⊕ Unit)} (ho : h_11036 x0 T = some o) (h : ∀ v, o = .inr v → P G none) (hX : ∀ e, o = .inl e → X G (exn e)) : ab_Gam (d + 10) 11036 [.int x0] G P X := by
  have hF : SameF F G G := SameF_rfl
  unfold h_11036 at ho
  refine ab_enter (I := i11036) rfl (Nat.le_of_ble_eq_true rfl) (fun R hR => ?_)
  change R _ _ _ _ 1 6
  refine us_iload_n hR dX10_requireTrialFuel_0 rfl ?_
  refine us_if_lt hR dX10_requireTrialFuel_1 11 (by decide) (fun c1 => ?_) (fun c1 => ?_)
  · rw [if_pos c1] at ho
    change R _ _ _ _ 1 6
    refine us_throwW (E := "java/lang/IllegalArgumentException") (t := "fuel is out of range") hR dX10_requireTrialFuel_11 (by decide +kernel) (by decide +kernel) dX10_requireTrialFuel_14 rfl dX10_requireTrialFuel_15 (by decide +kernel) dX10_requireTrialFuel_18 dX10_requireTrialFuel_21 (by omega) (Nat.le_of_ble_eq_true rfl) (Nat.le_of_ble_eq_true rfl) (Nat.le_of_ble_eq_true rfl) ?_
    cases ho
    exact hX _ rfl
  · rw [if_neg c1] at ho
    change R _ _ _ _ 1 6
    refine us_iload_n hR dX10_requireTrialFuel_4 rfl ?_
    refine us_sipushC hR dX10_requireTrialFuel_5 (c := 5000) (by decide) ?_
    refine us_icmp_le hR dX10_requireTrialFuel_8 22 (by decide) (fun c2 => ?_) (fun c2 => ?_)
    · rw [if_pos c2] at ho
      change R _ _ _ _ 1 6
      refine us_vret hR dX10_requireTrialFuel_22 rfl ?_
      cases ho
      exact h _ rfl
    · rw [if_neg c2] at ho
      change R _ _ _ _ 1 6
      refine us_throwW (E := "java/lang/IllegalArgumentException") (t := "fuel is out of range") hR dX10_requireTrialFuel_11 (by decide +kernel) (by decide +kernel) dX10_requireTrialFuel_14 rfl dX10_requireTrialFuel_15 (by decide +kernel) dX10_requireTrialFuel_18 dX10_requireTrialFuel_21 (by omega) (Nat.le_of_ble_eq_true rfl) (Nat.le_of_ble_eq_true rfl) (Nat.le_of_ble_eq_true rfl) ?_
      cases ho
      exact hX _ rfl
def h_11037 (x0 : Int32) (T : Tx) : Option (Nat ⊕ Unit) :=
  if x0 < 0 then
    some (.inl 2)
  else
    if x0 < 6 then
      some (.inr ())
    else
      some (.inl 2)
theorem sh_11037 {F : Nat → Prop} {d : Nat} {G : ab_G} {T : Tx} {P : ab_Pq} {X : ab_Xq} (h2 : Rep2 F G T) {x0 : Int32} {o : (Nat ⊕ Unit)} (ho : h_11037 x0 T = some o) (h : ∀ v, o = .inr v → P G none) (hX : ∀ e, o = .inl e → X G (exn e)) : ab_Gam (d + 10) 11037 [.int x0] G P X := by
  have hF : SameF F G G := SameF_rfl
  unfold h_11037 at ho
  refine ab_enter (I := i11037) rfl (Nat.le_of_ble_eq_true rfl) (fun R hR => ?_)
  change R _ _ _ _ 1 6
  refine us_iload_n hR dX10_requirePupil_0 rfl ?_
  refine us_if_lt hR dX10_requirePupil_1 10 (by decide) (fun c1 => ?_) (fun c1 => ?_)
  · rw [if_pos c1] at ho
    change R _ _ _ _ 1 6
    refine us_throwW (E := "java/lang/IndexOutOfBoundsException") (t := "no such pupil") hR dX10_requirePupil_10 (by decide +kernel) (by decide +kernel) dX10_requirePupil_13 rfl dX10_requirePupil_14 (by decide +kernel) dX10_requirePupil_17 dX10_requirePupil_20 (by omega) (Nat.le_of_ble_eq_true rfl) (Nat.le_of_ble_eq_true rfl) (Nat.le_of_ble_eq_true rfl) ?_
    cases ho
    exact hX _ rfl
  · rw [if_neg c1] at ho
    change R _ _ _ _ 1 6
    refine us_iload_n hR dX10_requirePupil_4 rfl ?_
    refine us_bipushC hR dX10_requirePupil_5 (c := 6) (by decide) ?_
    refine us_icmp_lt hR dX10_requirePupil_7 21 (by decide) (fun c2 => ?_) (fun c2 => ?_)
    · rw [if_pos c2] at ho
      change R _ _ _ _ 1 6
      refine us_vret hR dX10_requirePupil_21 rfl ?_
      cases ho
      exact h _ rfl
    · rw [if_neg c2] at ho
      change R _ _ _ _ 1 6
      refine us_throwW (E := "java/lang/IndexOutOfBoundsException") (t := "no such pupil") hR dX10_requirePupil_10 (by decide +kernel) (by decide +kernel) dX10_requirePupil_13 rfl dX10_requirePupil_14 (by decide +kernel) dX10_requirePupil_17 dX10_requirePupil_20 (by omega) (Nat.le_of_ble_eq_true rfl) (Nat.le_of_ble_eq_true rfl) (Nat.le_of_ble_eq_true rfl) ?_
      cases ho
      exact hX _ rfl
def h_11038 (me : Nat) (x0 : Int32) (T : Tx) : Option (Nat ⊕ Unit) :=
  if x0 < 0 then
    some (.inl 2)
  else
    gd (tK T me = 12) <|
    bP (tW T me 10) fun r2 =>
    gd (tK T r2 = 1) <|
    if x0 < (nI (tA T r2).length) then
      some (.inr ())
    else
      some (.inl 2)
theorem sh_11038 {F : Nat → Prop} {d : Nat} {G : ab_G} {T : Tx} {P : ab_Pq} {X : ab_Xq} (h2 : Rep2 F G T) {me : Nat} {x0 : Int32} {o : (Nat ⊕ Unit)} (ho : h_11038 me x0 T = some o) (h : ∀ v, o = .inr v → P G none) (hX : ∀ e, o = .inl e → X G (exn e)) : ab_Gam (d + 42) 11038 [.ref me, .int x0] G P X := by
  have hF : SameF F G G := SameF_rfl
  unfold h_11038 at ho
  refine ab_enter (I := i11038) rfl (Nat.le_of_ble_eq_true rfl) (fun R hR => ?_)
  change R _ _ _ _ 1 6
  refine us_iload_n hR dX10_requireAnswer_0 rfl ?_
  refine us_if_lt hR dX10_requireAnswer_1 15 (by decide) (fun c1 => ?_) (fun c1 => ?_)
  · rw [if_pos c1] at ho
    change R _ _ _ _ 1 6
    refine us_throwW (E := "java/lang/IndexOutOfBoundsException") (t := "no such answer") hR dX10_requireAnswer_15 (by decide +kernel) (by decide +kernel) dX10_requireAnswer_18 rfl dX10_requireAnswer_19 (by decide +kernel) dX10_requireAnswer_22 dX10_requireAnswer_25 (by omega) (Nat.le_of_ble_eq_true rfl) (Nat.le_of_ble_eq_true rfl) (Nat.le_of_ble_eq_true rfl) ?_
    cases ho
    exact hX _ rfl
  · rw [if_neg c1] at ho
    change R _ _ _ _ 1 6
    refine us_iload_n hR dX10_requireAnswer_4 rfl ?_
    refine us_aload_n hR dX10_requireAnswer_5 rfl ?_
    have hg := gd_c ho
    rw [gd_e hg] at ho
    obtain ⟨r2, hr2⟩ := bP_ex ho
    replace ho := bP_go ho hr2
    refine uh_getR h2 hg (by decide) hr2 hR dX10_requireAnswer_6 fR_11_67 rfl ?_
    have hg := gd_c ho
    rw [gd_e hg] at ho
    refine us_pri5 hR dX10_requireAnswer_9 (by decide +kernel) rfl (H_lst0 h2 hg) rfl (Nat.le_of_ble_eq_true rfl) (Nat.zero_le _) (Nat.zero_le _) ?_
    refine hl_size h2 hg ?_
    refine us_icmp_lt hR dX10_requireAnswer_12 26 (by decide) (fun c4 => ?_) (fun c4 => ?_)
    · rw [if_pos c4] at ho
      change R _ _ _ _ 1 6
      refine us_vret hR dX10_requireAnswer_26 rfl ?_
      cases ho
      exact h _ rfl
    · rw [if_neg c4] at ho
      change R _ _ _ _ 1 6
      refine us_throwW (E := "java/lang/IndexOutOfBoundsException") (t := "no such answer") hR dX10_requireAnswer_15 (by decide +kernel) (by decide +kernel) dX10_requireAnswer_18 rfl dX10_requireAnswer_19 (by decide +kernel) dX10_requireAnswer_22 dX10_requireAnswer_25 (by omega) (Nat.le_of_ble_eq_true rfl) (Nat.le_of_ble_eq_true rfl) (Nat.le_of_ble_eq_true rfl) ?_
      cases ho
      exact hX _ rfl
def h_11039 (me : Nat) (x0 : Int32) (T : Tx) : Option (Nat ⊕ Nat) :=
  if x0 < 0 then
    some (.inl 2)
  else
    gd (tK T me = 12) <|
    bP (tW T me 10) fun r2 =>
    gd (tK T r2 = 1) <|
    if x0 < (nI (tA T r2).length) then
      gd (tK T me = 12) <|
      bP (tW T me 10) fun r5 =>
      gd (tK T r5 = 1) <|
      gd (vi x0 (tA T r5).length) <|
      bS ((tA T r5).getD x0.toNatClampNeg 0) fun r6 =>
      gd (tK T r6 = 2) <|
      some (.inr r6)
    else
      some (.inl 2)
theorem sh_11039 {F : Nat → Prop} {d : Nat} {G : ab_G} {T : Tx} {P : ab_Pq} {X : ab_Xq} (h2 : Rep2 F G T) {me : Nat} {x0 : Int32} {o : (Nat ⊕ Nat)} (ho : h_11039 me x0 T = some o) (h : ∀ v, o = .inr v → P G (some (.ref v))) (hX : ∀ e, o = .inl e → X G (exn e)) : ab_Gam (d + 42) 11039 [.ref me, .int x0] G P X := by
  have hF : SameF F G G := SameF_rfl
  unfold h_11039 at ho
  refine ab_enter (I := i11039) rfl (Nat.le_of_ble_eq_true rfl) (fun R hR => ?_)
  change R _ _ _ _ 1 6
  refine us_iload_n hR dX10_answerAt_0 rfl ?_
  refine us_if_lt hR dX10_answerAt_1 15 (by decide) (fun c1 => ?_) (fun c1 => ?_)
  · rw [if_pos c1] at ho
    change R _ _ _ _ 1 6
    refine us_throwW (E := "java/lang/IndexOutOfBoundsException") (t := "no such answer") hR dX10_answerAt_15 (by decide +kernel) (by decide +kernel) dX10_answerAt_18 rfl dX10_answerAt_19 (by decide +kernel) dX10_answerAt_22 dX10_answerAt_25 (by omega) (Nat.le_of_ble_eq_true rfl) (Nat.le_of_ble_eq_true rfl) (Nat.le_of_ble_eq_true rfl) ?_
    cases ho
    exact hX _ rfl
  · rw [if_neg c1] at ho
    change R _ _ _ _ 1 6
    refine us_iload_n hR dX10_answerAt_4 rfl ?_
    refine us_aload_n hR dX10_answerAt_5 rfl ?_
    have hg := gd_c ho
    rw [gd_e hg] at ho
    obtain ⟨r2, hr2⟩ := bP_ex ho
    replace ho := bP_go ho hr2
    refine uh_getR h2 hg (by decide) hr2 hR dX10_answerAt_6 fR_11_67 rfl ?_
    have hg := gd_c ho
    rw [gd_e hg] at ho
    refine us_pri5 hR dX10_answerAt_9 (by decide +kernel) rfl (H_lst0 h2 hg) rfl (Nat.le_of_ble_eq_true rfl) (Nat.zero_le _) (Nat.zero_le _) ?_
    refine hl_size h2 hg ?_
    refine us_icmp_lt hR dX10_answerAt_12 26 (by decide) (fun c4 => ?_) (fun c4 => ?_)
    · rw [if_pos c4] at ho
      change R _ _ _ _ 1 6
      refine us_aload_n hR dX10_answerAt_26 rfl ?_
      have hg := gd_c ho
      rw [gd_e hg] at ho
      obtain ⟨r5, hr5⟩ := bP_ex ho
      replace ho := bP_go ho hr5
      refine uh_getR h2 hg (by decide) hr5 hR dX10_answerAt_27 fR_11_67 rfl ?_
      refine us_iload_n hR dX10_answerAt_30 rfl ?_
      have hg := gd_c ho
      rw [gd_e hg] at ho
      have hk := hg
      have hg := gd_c ho
      rw [gd_e hg] at ho
      refine us_pri6 hR dX10_answerAt_31 (by decide +kernel) rfl (H_lst0 h2 hk) rfl (Nat.le_of_ble_eq_true rfl) (Nat.zero_le _) (Nat.zero_le _) ?_
      refine hl_get h2 hk hg ?_
      obtain ⟨r6, hr6⟩ : ∃ r, r = (tA T r5).getD x0.toNatClampNeg 0 := ⟨_, rfl⟩
      rw [← hr6]
      rw [← hr6, bS_eq] at ho
      have hg := gd_c ho
      rw [gd_e hg] at ho
      refine us_cast hR dX10_answerAt_34 (by decide +kernel) (H_kind1 h2 hg (by decide)) (by decide) ?_
      refine us_aret hR dX10_answerAt_37 rfl rfl ?_
      cases ho
      exact h _ rfl
    · rw [if_neg c4] at ho
      change R _ _ _ _ 1 6
      refine us_throwW (E := "java/lang/IndexOutOfBoundsException") (t := "no such answer") hR dX10_answerAt_15 (by decide +kernel) (by decide +kernel) dX10_answerAt_18 rfl dX10_answerAt_19 (by decide +kernel) dX10_answerAt_22 dX10_answerAt_25 (by omega) (Nat.le_of_ble_eq_true rfl) (Nat.le_of_ble_eq_true rfl) (Nat.le_of_ble_eq_true rfl) ?_
      cases ho
      exact hX _ rfl
def h_11040 (me : Nat) (x0 : Int32) (T : Tx) : Option (Nat ⊕ Nat) :=
  if x0 < 0 then
    some (.inl 2)
  else
    gd (tK T me = 12) <|
    bP (tW T me 9) fun r2 =>
    gd (tK T r2 = 1) <|
    if x0 < (nI (tA T r2).length) then
      gd (tK T me = 12) <|
      bP (tW T me 9) fun r5 =>
      gd (tK T r5 = 1) <|
      gd (vi x0 (tA T r5).length) <|
      bS ((tA T r5).getD x0.toNatClampNeg 0) fun r6 =>
      gd (tK T r6 = 3) <|
      some (.inr r6)
    else
      some (.inl 2)
theorem sh_11040 {F : Nat → Prop} {d : Nat} {G : ab_G} {T : Tx} {P : ab_Pq} {X : ab_Xq} (h2 : Rep2 F G T) {me : Nat} {x0 : Int32} {o : (Nat ⊕ Nat)} (ho : h_11040 me x0 T = some o) (h : ∀ v, o = .inr v → P G (some (.ref v))) (hX : ∀ e, o = .inl e → X G (exn e)) : ab_Gam (d + 42) 11040 [.ref me, .int x0] G P X := by
  have hF : SameF F G G := SameF_rfl
  unfold h_11040 at ho
  refine ab_enter (I := i11040) rfl (Nat.le_of_ble_eq_true rfl) (fun R hR => ?_)
  change R _ _ _ _ 1 6
  refine us_iload_n hR dX10_exerciseAt_0 rfl ?_
  refine us_if_lt hR dX10_exerciseAt_1 15 (by decide) (fun c1 => ?_) (fun c1 => ?_)
  · rw [if_pos c1] at ho
    change R _ _ _ _ 1 6
    refine us_throwW (E := "java/lang/IndexOutOfBoundsException") (t := "no such exercise") hR dX10_exerciseAt_15 (by decide +kernel) (by decide +kernel) dX10_exerciseAt_18 rfl dX10_exerciseAt_19 (by decide +kernel) dX10_exerciseAt_22 dX10_exerciseAt_25 (by omega) (Nat.le_of_ble_eq_true rfl) (Nat.le_of_ble_eq_true rfl) (Nat.le_of_ble_eq_true rfl) ?_
    cases ho
    exact hX _ rfl
  · rw [if_neg c1] at ho
    change R _ _ _ _ 1 6
    refine us_iload_n hR dX10_exerciseAt_4 rfl ?_
    refine us_aload_n hR dX10_exerciseAt_5 rfl ?_
    have hg := gd_c ho
    rw [gd_e hg] at ho
    obtain ⟨r2, hr2⟩ := bP_ex ho
    replace ho := bP_go ho hr2
    refine uh_getR h2 hg (by decide) hr2 hR dX10_exerciseAt_6 fR_11_63 rfl ?_
    have hg := gd_c ho
    rw [gd_e hg] at ho
    refine us_pri5 hR dX10_exerciseAt_9 (by decide +kernel) rfl (H_lst0 h2 hg) rfl (Nat.le_of_ble_eq_true rfl) (Nat.zero_le _) (Nat.zero_le _) ?_
    refine hl_size h2 hg ?_
    refine us_icmp_lt hR dX10_exerciseAt_12 26 (by decide) (fun c4 => ?_) (fun c4 => ?_)
    · rw [if_pos c4] at ho
      change R _ _ _ _ 1 6
      refine us_aload_n hR dX10_exerciseAt_26 rfl ?_
      have hg := gd_c ho
      rw [gd_e hg] at ho
      obtain ⟨r5, hr5⟩ := bP_ex ho
      replace ho := bP_go ho hr5
      refine uh_getR h2 hg (by decide) hr5 hR dX10_exerciseAt_27 fR_11_63 rfl ?_
      refine us_iload_n hR dX10_exerciseAt_30 rfl ?_
      have hg := gd_c ho
      rw [gd_e hg] at ho
      have hk := hg
      have hg := gd_c ho
      rw [gd_e hg] at ho
      refine us_pri6 hR dX10_exerciseAt_31 (by decide +kernel) rfl (H_lst0 h2 hk) rfl (Nat.le_of_ble_eq_true rfl) (Nat.zero_le _) (Nat.zero_le _) ?_
      refine hl_get h2 hk hg ?_
      obtain ⟨r6, hr6⟩ : ∃ r, r = (tA T r5).getD x0.toNatClampNeg 0 := ⟨_, rfl⟩
      rw [← hr6]
      rw [← hr6, bS_eq] at ho
      have hg := gd_c ho
      rw [gd_e hg] at ho
      refine us_cast hR dX10_exerciseAt_34 (by decide +kernel) (H_kind1 h2 hg (by decide)) (by decide) ?_
      refine us_aret hR dX10_exerciseAt_37 rfl rfl ?_
      cases ho
      exact h _ rfl
    · rw [if_neg c4] at ho
      change R _ _ _ _ 1 6
      refine us_throwW (E := "java/lang/IndexOutOfBoundsException") (t := "no such exercise") hR dX10_exerciseAt_15 (by decide +kernel) (by decide +kernel) dX10_exerciseAt_18 rfl dX10_exerciseAt_19 (by decide +kernel) dX10_exerciseAt_22 dX10_exerciseAt_25 (by omega) (Nat.le_of_ble_eq_true rfl) (Nat.le_of_ble_eq_true rfl) (Nat.le_of_ble_eq_true rfl) ?_
      cases ho
      exact hX _ rfl
def h_11041 (x0 : Nat) (x1 : Int32) (T : Tx) : Option (Nat ⊕ Nat) :=
  gd (tK T x0 = 3) <|
  bP (h_2003 x0 x1 T) fun r1 =>
  bN r1 (
    some (.inl 2)
    ) fun a1 =>
  some (.inr a1)
theorem sh_11041 {F : Nat → Prop} {d : Nat} {G : ab_G} {T : Tx} {P : ab_Pq} {X : ab_Xq} (h2 : Rep2 F G T) {x0 : Nat} {x1 : Int32} {o : (Nat ⊕ Nat)} (ho : h_11041 x0 x1 T = some o) (h : ∀ v, o = .inr v → P G (some (.ref v))) (hX : ∀ e, o = .inl e → X G (exn e)) : ab_Gam (d + 43) 11041 [.ref x0, .int x1] G P X := by
  have hF : SameF F G G := SameF_rfl
  unfold h_11041 at ho
  refine ab_enter (I := i11041) rfl (Nat.le_of_ble_eq_true rfl) (fun R hR => ?_)
  change R _ _ _ _ 1 6
  refine us_aload_n hR dX10_testAt_0 rfl ?_
  refine us_iload_n hR dX10_testAt_1 rfl ?_
  have hg := gd_c ho
  rw [gd_e hg] at ho
  refine us_callV hR dX10_testAt_2 (y := 2003) (by decide +kernel) (by decide) (J := i2003) rfl rfl rfl rfl (H_kind1 h2 hg (by decide)) rfl (Nat.le_of_ble_eq_true rfl) (Nat.zero_le _) (Nat.zero_le _) ?_
  obtain ⟨r1, hr1⟩ := bP_ex ho
  replace ho := bP_go ho hr1
  refine sh_2003 h2 hr1 ?_
  rcases r1 with _ | a1
  · rw [bN_none] at ho
    change R _ _ _ _ 1 6
    refine us_astore_nN hR dX10_testAt_5 (Nat.le_of_ble_eq_true rfl) ?_
    refine us_aload_nN hR dX10_testAt_6 rfl ?_
    refine us_ifnonnullN hR dX10_testAt_7 ?_
    refine us_throwW (E := "java/lang/IndexOutOfBoundsException") (t := "no such test") hR dX10_testAt_10 (by decide +kernel) (by decide +kernel) dX10_testAt_13 rfl dX10_testAt_14 (by decide +kernel) dX10_testAt_17 dX10_testAt_20 (by omega) (Nat.le_of_ble_eq_true rfl) (Nat.le_of_ble_eq_true rfl) (Nat.le_of_ble_eq_true rfl) ?_
    cases ho
    exact hX _ rfl
  · rw [bN_some] at ho
    change R _ _ _ _ 1 6
    refine us_astore_n hR dX10_testAt_5 (Nat.le_of_ble_eq_true rfl) ?_
    refine us_aload_n hR dX10_testAt_6 rfl ?_
    refine us_ifnonnull hR dX10_testAt_7 21 (by decide) ?_
    refine us_aload_n hR dX10_testAt_21 rfl ?_
    refine us_aret hR dX10_testAt_22 rfl rfl ?_
    cases ho
    exact h _ rfl
def h_11043 (me : Nat) (T : Tx) : Option (Nat ⊕ Unit) :=
  gd (tK T me = 12) <|
  bP (tW T me 1) fun r1 =>
  gd (tK T r1 = 5) <|
  if (tV T r1 9) = 0 then
    some (.inr ())
  else
    some (.inl 3)
theorem sh_11043 {F : Nat → Prop} {d : Nat} {G : ab_G} {T : Tx} {P : ab_Pq} {X : ab_Xq} (h2 : Rep2 F G T) {me : Nat} {o : (Nat ⊕ Unit)} (ho : h_11043 me T = some o) (h : ∀ v, o = .inr v → P G none) (hX : ∀ e, o = .inl e → X G (exn e)) : ab_Gam (d + 10) 11043 [.ref me] G P X := by
  have hF : SameF F G G := SameF_rfl
  unfold h_11043 at ho
  refine ab_enter (I := i11043) rfl (Nat.le_of_ble_eq_true rfl) (fun R hR => ?_)
  change R _ _ _ _ 1 6
  refine us_aload_n hR dX10_requireNoFault_0 rfl ?_
  have hg := gd_c ho
  rw [gd_e hg] at ho
  obtain ⟨r1, hr1⟩ := bP_ex ho
  replace ho := bP_go ho hr1
  refine uh_getR h2 hg (by decide) hr1 hR dX10_requireNoFault_1 fR_11_21 rfl ?_
  have hg := gd_c ho
  rw [gd_e hg] at ho
  refine uh_getI (ci := 4) (f := 9) h2 hg (by decide) hR dX10_requireNoFault_4 fR_11_118 rfl ?_
  refine us_if_eq hR dX10_requireNoFault_7 21 (by decide) (fun c2 => ?_) (fun c2 => ?_)
  · rw [if_pos c2] at ho
    change R _ _ _ _ 1 6
    refine us_vret hR dX10_requireNoFault_21 rfl ?_
    cases ho
    exact h _ rfl
  · rw [if_neg c2] at ho
    change R _ _ _ _ 1 6
    refine us_throwW (E := "java/lang/IllegalStateException") (t := "the draft has a fault") hR dX10_requireNoFault_10 (by decide +kernel) (by decide +kernel) dX10_requireNoFault_13 rfl dX10_requireNoFault_14 (by decide +kernel) dX10_requireNoFault_17 dX10_requireNoFault_20 (by omega) (Nat.le_of_ble_eq_true rfl) (Nat.le_of_ble_eq_true rfl) (Nat.le_of_ble_eq_true rfl) ?_
    cases ho
    exact hX _ rfl
def h_11042_J31 (l0 : Nat) (bc bs : Nat) (T : Tx) : Option Tx :=
  gd (tK T l0 = 12) <|
  bP (tW T l0 1) fun r1 =>
  gd (tK T r1 = 5) <|
  bP (tW T r1 0) fun r2 =>
  gd (tK T l0 = 12) <|
  bP (tW T l0 0) fun r3 =>
  gd (tK T r2 = 10) <|
  bOv (h_9001 l0 r2 r3 T) fun T4 =>
  gd (tK T4 l0 = 12) <|
  bP (tW T4 l0 4) fun r5 =>
  gd (tK T4 l0 = 12) <|
  bP (tW T4 l0 1) fun r6 =>
  gd (tK T4 r5 = 6) <|
  bOv (h_5001 l0 r5 r6 T4) fun T7 =>
  gd (tK T7 l0 = 12) <|
  bS (tsV T7 l0 2 1) fun T8 =>
  some T8
def h_11042 (me : Nat) (T : Tx) : Option Tx :=
  gd (tK T me = 12) <|
  if (tV T me 2) = 0 then
    gd (tK T me = 12) <|
    if (tV T me 3) = 0 then
      h_11042_J31 me 40 3700 T
    else
      bS (tNew T 5) fun T11 =>
      gd (tK T11 (tZ T) = 5) <|
      bOv (h_4000 (tZ T) T11) fun T12 =>
      gd (tK T12 me = 12) <|
      bS (tsW T12 me 1 (some (tZ T))) fun T13 =>
      gd (tK T13 me = 12) <|
      bS (tsV T13 me 3 0) fun T14 =>
      h_11042_J31 me 9 189 T14
  else
    some T
theorem sh_11042 {F : Nat → Prop} {d : Nat} {G : ab_G} {T : Tx} {P : ab_Pq} {X : ab_Xq} (h2 : Rep2 F G T) {me : Nat} {o : Tx} (ho : h_11042 me T = some o) (h : ∀ G1, Rep2 F G1 o → SameF F G G1 → P G1 none) : ab_Gam (d + 914) 11042 [.ref me] G P X := by
  have hF : SameF F G G := SameF_rfl
  unfold h_11042 at ho
  refine ab_enter (I := i11042) rfl (Nat.le_of_ble_eq_true rfl) (fun R hR => ?_)
  have h11042_J31 : ∀ (l0 : Nat)  (T : Tx) (Ga : ab_G) (bc bs : Nat) (h2 : Rep2 F Ga T) (hFa : SameF F G Ga) (ho : h_11042_J31 l0 bc bs T = some o), R 31 [some (.ref l0)] [] Ga bc bs := by
    intro l0  T Ga bc bs h2 hFa ho
    unfold h_11042_J31 at ho
    refine us_aload_n hR dX10_readDraft_31 rfl ?_
    have hg := gd_c ho
    rw [gd_e hg] at ho
    obtain ⟨r1, hr1⟩ := bP_ex ho
    replace ho := bP_go ho hr1
    refine uh_getR h2 hg (by decide) hr1 hR dX10_readDraft_32 fR_11_21 rfl ?_
    have hg := gd_c ho
    rw [gd_e hg] at ho
    obtain ⟨r2, hr2⟩ := bP_ex ho
    replace ho := bP_go ho hr2
    refine uh_getR h2 hg (by decide) hr2 hR dX10_readDraft_35 fR_11_122 rfl ?_
    refine us_aload_n hR dX10_readDraft_38 rfl ?_
    have hg := gd_c ho
    rw [gd_e hg] at ho
    obtain ⟨r3, hr3⟩ := bP_ex ho
    replace ho := bP_go ho hr3
    refine uh_getR h2 hg (by decide) hr3 hR dX10_readDraft_39 fR_11_14 rfl ?_
    have hg := gd_c ho
    rw [gd_e hg] at ho
    refine us_callV hR dX10_readDraft_42 (y := 9001) (by decide +kernel) (by decide) (J := i9001) rfl rfl rfl rfl (H_kind1 h2 hg (by decide)) rfl (Nat.le_of_ble_eq_true rfl) (Nat.zero_le _) (Nat.zero_le _) ?_
    obtain ⟨T4, hs4⟩ := bOv_ex ho
    replace ho := bOv_go ho hs4
    refine sh_9001 h2 l0 hs4 (fun G4 h24 hF4 => ?_)
    have hF4 := hFa.tr hF4
    refine us_aload_n hR dX10_readDraft_45 rfl ?_
    have hg := gd_c ho
    rw [gd_e hg] at ho
    obtain ⟨r5, hr5⟩ := bP_ex ho
    replace ho := bP_go ho hr5
    refine uh_getR h24 hg (by decide) hr5 hR dX10_readDraft_46 fR_11_30 rfl ?_
    refine us_aload_n hR dX10_readDraft_49 rfl ?_
    have hg := gd_c ho
    rw [gd_e hg] at ho
    obtain ⟨r6, hr6⟩ := bP_ex ho
    replace ho := bP_go ho hr6
    refine uh_getR h24 hg (by decide) hr6 hR dX10_readDraft_50 fR_11_21 rfl ?_
    have hg := gd_c ho
    rw [gd_e hg] at ho
    refine us_callV hR dX10_readDraft_53 (y := 5001) (by decide +kernel) (by decide) (J := i5001) rfl rfl rfl rfl (H_kind1 h24 hg (by decide)) rfl (Nat.le_of_ble_eq_true rfl) (Nat.zero_le _) (Nat.zero_le _) ?_
    obtain ⟨T7, hs7⟩ := bOv_ex ho
    replace ho := bOv_go ho hs7
    refine sh_5001 h24 l0 hs7 (fun G7 h27 hF7 => ?_)
    have hF7 := hF4.tr hF7
    refine us_aload_n hR dX10_readDraft_56 rfl ?_
    refine us_iconstC hR dX10_readDraft_57 (c := 1) (by decide) ?_
    have hg := gd_c ho
    rw [gd_e hg] at ho
    refine uh_putI h27 hg (by decide) hR dX10_readDraft_58 fR_11_94 (Or.inl rfl) rfl rfl (fun G8 T8 hs8 h28 hF8 => ?_)
    rw [← hs8, bS_eq] at ho
    have hF8 := hF7.tr hF8
    refine us_vret hR dX10_readDraft_61 rfl ?_
    cases ho
    exact h _ h28 hF8
  change R _ _ _ _ 40 3700
  refine us_aload_n hR dX10_readDraft_0 rfl ?_
  have hg := gd_c ho
  rw [gd_e hg] at ho
  refine uh_getI (ci := 11) (f := 2) h2 hg (by decide) hR dX10_readDraft_1 fR_11_94 rfl ?_
  refine us_if_eq hR dX10_readDraft_4 8 (by decide) (fun c9 => ?_) (fun c9 => ?_)
  · rw [if_pos c9] at ho
    change R _ _ _ _ 40 3700
    refine us_aload_n hR dX10_readDraft_8 rfl ?_
    have hg := gd_c ho
    rw [gd_e hg] at ho
    refine uh_getI (ci := 11) (f := 3) h2 hg (by decide) hR dX10_readDraft_9 fR_11_248 rfl ?_
    refine us_if_eq hR dX10_readDraft_12 31 (by decide) (fun c10 => ?_) (fun c10 => ?_)
    · rw [if_pos c10] at ho
      exact h11042_J31 me  T G _ _ h2 hF ho
    · rw [if_neg c10] at ho
      change R _ _ _ _ 40 3700
      refine us_aload_n hR dX10_readDraft_15 rfl ?_
      refine uh_new (ci := 4) 5 h2 (by decide) hR dX10_readDraft_16 (by decide +kernel) (by decide) (Nat.le_of_ble_eq_true rfl) (Nat.le_of_ble_eq_true rfl) (fun G11 T11 hs11 h211 hF11 => ?_)
      rw [← hs11, bS_eq] at ho
      have hF11 := hF.tr hF11
      change R _ _ _ _ 39 3689
      refine us_dup hR dX10_readDraft_19 rfl ?_
      have hg := gd_c ho
      rw [gd_e hg] at ho
      refine us_callN hR dX10_readDraft_20 (y := 4000) (by decide +kernel) (by decide +kernel) (J := i4000) rfl rfl rfl rfl (H_kind1 h211 hg (by decide)) rfl (Nat.le_of_ble_eq_true rfl) (Nat.le_of_ble_eq_true rfl) (Nat.le_of_ble_eq_true rfl) ?_
      obtain ⟨T12, hs12⟩ := bOv_ex ho
      replace ho := bOv_go ho hs12
      refine sh_4000 h211 hs12 (fun G12 h212 hF12 => ?_)
      have hF12 := hF11.tr hF12
      change R _ _ _ _ 9 189
      have hg := gd_c ho
      rw [gd_e hg] at ho
      refine uh_putR h212 hg (by decide) hR dX10_readDraft_23 fR_11_21 (Or.inl rfl) rfl (fun G13 T13 hs13 h213 hF13 => ?_)
      rw [← hs13, bS_eq] at ho
      have hF13 := hF12.tr hF13
      refine us_aload_n hR dX10_readDraft_26 rfl ?_
      refine us_iconstC hR dX10_readDraft_27 (c := 0) (by decide) ?_
      have hg := gd_c ho
      rw [gd_e hg] at ho
      refine uh_putI h213 hg (by decide) hR dX10_readDraft_28 fR_11_248 (Or.inl rfl) rfl rfl (fun G14 T14 hs14 h214 hF14 => ?_)
      rw [← hs14, bS_eq] at ho
      have hF14 := hF13.tr hF14
      exact h11042_J31 me  T14 G14 _ _ h214 hF14 ho
  · rw [if_neg c9] at ho
    change R _ _ _ _ 40 3700
    refine us_vret hR dX10_readDraft_7 rfl ?_
    cases ho
    exact h _ h2 hF
def h_11044 (me : Nat) (x0 : Nat) (x1 : Nat) (T : Tx) : Option Tx :=
  gd (tK T me = 12) <|
  bP (tW T me 7) fun r1 =>
  gd (tK T x0 = 2) <|
  bP (tW T x0 2) fun r2 =>
  gd (tK T me = 12) <|
  bP (tW T me 6) fun r3 =>
  gd (tK T x0 = 2) <|
  bP (tW T x0 1) fun r4 =>
  gd (tK T r4 = 3) <|
  gd (tK T x1 = 9) <|
  gd (tK T x1 = 9) <|
  gd (tK T r1 = 4) <|
  bOv (h_3001 me r1 r2 r3 (tV T r4 1) (tV T x1 1) (tV T x1 2) T) fun T5 =>
  gd (tK T5 x0 = 2) <|
  bP (tW T5 x0 4) fun r6 =>
  gd (tK T5 me = 12) <|
  bP (tW T5 me 6) fun r7 =>
  gd (tK T5 r7 = 8) <|
  bP (h_7003 r7 T5) fun r8 =>
  gd (tK T5 r6 = 7) <|
  bS (tsB T5 r6 (xadd (tC T5 r6) (tB T5 r6) r8)) fun T9 =>
  gd (tK T9 x0 = 2) <|
  bP (tW T9 x0 5) fun r10 =>
  gd (tK T9 me = 12) <|
  bP (tW T9 me 6) fun r11 =>
  gd (tK T9 x1 = 9) <|
  bP (h_8001 x1 r11 T9) fun r12 =>
  if r12 = 0 then
    gd (tK T9 r10 = 7) <|
    bS (tsB T9 r10 (xadd (tC T9 r10) (tB T9 r10) 0)) fun T14 =>
    some T14
  else
    gd (tK T9 r10 = 7) <|
    bS (tsB T9 r10 (xadd (tC T9 r10) (tB T9 r10) 1)) fun T15 =>
    some T15
theorem sh_11044 {F : Nat → Prop} {d : Nat} {G : ab_G} {T : Tx} {P : ab_Pq} {X : ab_Xq} (h2 : Rep2 F G T) {me : Nat} {x0 : Nat} {x1 : Nat} {o : Tx} (ho : h_11044 me x0 x1 T = some o) (h : ∀ G1, Rep2 F G1 o → SameF F G G1 → P G1 none) : ab_Gam (d + 7) 11044 [.ref me, .ref x0, .ref x1] G P X := by
  have hF : SameF F G G := SameF_rfl
  unfold h_11044 at ho
  refine ab_enter (I := i11044) rfl (Nat.le_of_ble_eq_true rfl) (fun R hR => ?_)
  refine us_aload_n hR dX10_test_0 rfl ?_
  have hg := gd_c ho
  rw [gd_e hg] at ho
  obtain ⟨r1, hr1⟩ := bP_ex ho
  replace ho := bP_go ho hr1
  refine uh_getR h2 hg (by decide) hr1 hR dX10_test_1 fR_11_49 rfl ?_
  refine us_aload_n hR dX10_test_4 rfl ?_
  have hg := gd_c ho
  rw [gd_e hg] at ho
  obtain ⟨r2, hr2⟩ := bP_ex ho
  replace ho := bP_go ho hr2
  refine uh_getR h2 hg (by decide) hr2 hR dX10_test_5 fR_11_254 rfl ?_
  refine us_aload_n hR dX10_test_8 rfl ?_
  have hg := gd_c ho
  rw [gd_e hg] at ho
  obtain ⟨r3, hr3⟩ := bP_ex ho
  replace ho := bP_go ho hr3
  refine uh_getR h2 hg (by decide) hr3 hR dX10_test_9 fR_11_41 rfl ?_
  refine us_aload_n hR dX10_test_12 rfl ?_
  have hg := gd_c ho
  rw [gd_e hg] at ho
  obtain ⟨r4, hr4⟩ := bP_ex ho
  replace ho := bP_go ho hr4
  refine uh_getR h2 hg (by decide) hr4 hR dX10_test_13 fR_11_210 rfl ?_
  have hg := gd_c ho
  rw [gd_e hg] at ho
  refine uh_getI (ci := 2) (f := 1) h2 hg (by decide) hR dX10_test_16 fR_11_275 rfl ?_
  refine us_aload_n hR dX10_test_19 rfl ?_
  have hg := gd_c ho
  rw [gd_e hg] at ho
  refine uh_getI (ci := 8) (f := 1) h2 hg (by decide) hR dX10_test_20 fR_11_277 rfl ?_
  refine us_aload_n hR dX10_test_23 rfl ?_
  have hg := gd_c ho
  rw [gd_e hg] at ho
  refine uh_getI (ci := 8) (f := 2) h2 hg (by decide) hR dX10_test_24 fR_11_280 rfl ?_
  have hg := gd_c ho
  rw [gd_e hg] at ho
  refine us_callV hR dX10_test_27 (y := 3001) (by decide +kernel) (by decide) (J := i3001) rfl rfl rfl rfl (H_kind1 h2 hg (by decide)) rfl (Nat.le_of_ble_eq_true rfl) (Nat.zero_le _) (Nat.zero_le _) ?_
  obtain ⟨T5, hs5⟩ := bOv_ex ho
  replace ho := bOv_go ho hs5
  refine sh_3001 h2 me hs5 (fun G5 h25 hF5 => ?_)
  have hF5 := hF.tr hF5
  refine us_aload_n hR dX10_test_30 rfl ?_
  have hg := gd_c ho
  rw [gd_e hg] at ho
  obtain ⟨r6, hr6⟩ := bP_ex ho
  replace ho := bP_go ho hr6
  refine uh_getR h25 hg (by decide) hr6 hR dX10_test_31 fR_11_268 rfl ?_
  refine us_aload_n hR dX10_test_34 rfl ?_
  have hg := gd_c ho
  rw [gd_e hg] at ho
  obtain ⟨r7, hr7⟩ := bP_ex ho
  replace ho := bP_go ho hr7
  refine uh_getR h25 hg (by decide) hr7 hR dX10_test_35 fR_11_41 rfl ?_
  have hg := gd_c ho
  rw [gd_e hg] at ho
  refine us_callV hR dX10_test_38 (y := 7003) (by decide +kernel) (by decide) (J := i7003) rfl rfl rfl rfl (H_kind1 h25 hg (by decide)) rfl (Nat.le_of_ble_eq_true rfl) (Nat.zero_le _) (Nat.zero_le _) ?_
  obtain ⟨r8, hr8⟩ := bP_ex ho
  replace ho := bP_go ho hr8
  refine sh_7003 h25 hr8 ?_
  have hg := gd_c ho
  rw [gd_e hg] at ho
  refine us_callV hR dX10_test_41 (y := 6004) (by decide +kernel) (by decide) (J := i6004) rfl rfl rfl rfl (H_row6 h25 hg) rfl (Nat.le_of_ble_eq_true rfl) (Nat.zero_le _) (Nat.zero_le _) ?_
  refine hr_add h25 hg (fun G9 T9 hs9 h29 hF9 => ?_)
  rw [← hs9, bS_eq] at ho
  have hF9 := hF5.tr hF9
  refine us_aload_n hR dX10_test_44 rfl ?_
  have hg := gd_c ho
  rw [gd_e hg] at ho
  obtain ⟨r10, hr10⟩ := bP_ex ho
  replace ho := bP_go ho hr10
  refine uh_getR h29 hg (by decide) hr10 hR dX10_test_45 fR_11_265 rfl ?_
  refine us_aload_n hR dX10_test_48 rfl ?_
  refine us_aload_n hR dX10_test_49 rfl ?_
  have hg := gd_c ho
  rw [gd_e hg] at ho
  obtain ⟨r11, hr11⟩ := bP_ex ho
  replace ho := bP_go ho hr11
  refine uh_getR h29 hg (by decide) hr11 hR dX10_test_50 fR_11_41 rfl ?_
  have hg := gd_c ho
  rw [gd_e hg] at ho
  refine us_callV hR dX10_test_53 (y := 8001) (by decide +kernel) (by decide) (J := i8001) rfl rfl rfl rfl (H_kind1 h29 hg (by decide)) rfl (Nat.le_of_ble_eq_true rfl) (Nat.zero_le _) (Nat.zero_le _) ?_
  obtain ⟨r12, hr12⟩ := bP_ex ho
  replace ho := bP_go ho hr12
  refine sh_8001 h29 hr12 (fun hb12 => ?_)
  refine us_if_eq hR dX10_test_56 63 (by decide) (fun c13 => ?_) (fun c13 => ?_)
  · rw [if_pos c13] at ho
    refine us_iconstC hR dX10_test_63 (c := 0) (by decide) ?_
    have hg := gd_c ho
    rw [gd_e hg] at ho
    refine us_callV hR dX10_test_64 (y := 6004) (by decide +kernel) (by decide) (J := i6004) rfl rfl rfl rfl (H_row6 h29 hg) rfl (Nat.le_of_ble_eq_true rfl) (Nat.zero_le _) (Nat.zero_le _) ?_
    refine hr_add h29 hg (fun G14 T14 hs14 h214 hF14 => ?_)
    rw [← hs14, bS_eq] at ho
    have hF14 := hF9.tr hF14
    refine us_vret hR dX10_test_67 rfl ?_
    cases ho
    exact h _ h214 hF14
  · rw [if_neg c13] at ho
    refine us_iconstC hR dX10_test_59 (c := 1) (by decide) ?_
    refine us_goto hR dX10_test_60 64 (by decide) ?_
    have hg := gd_c ho
    rw [gd_e hg] at ho
    refine us_callV hR dX10_test_64 (y := 6004) (by decide +kernel) (by decide) (J := i6004) rfl rfl rfl rfl (H_row6 h29 hg) rfl (Nat.le_of_ble_eq_true rfl) (Nat.zero_le _) (Nat.zero_le _) ?_
    refine hr_add h29 hg (fun G15 T15 hs15 h215 hF15 => ?_)
    rw [← hs15, bS_eq] at ho
    have hF15 := hF9.tr hF15
    refine us_vret hR dX10_test_67 rfl ?_
    cases ho
    exact h _ h215 hF15
def h_11045_L9 : Nat → Nat → Int32 → Tx → Option Tx
  | 0, _, _, _ => none
  | n + 1, l0, l1, T =>
    gd (tK T l0 = 12) <|
    bP (tW T l0 10) fun r1 =>
    gd (tK T r1 = 1) <|
    if (nI (tA T r1).length) ≤ l1 then
      some T
    else
      gd (tK T l0 = 12) <|
      bP (tW T l0 11) fun r4 =>
      gd (tK T l0 = 12) <|
      bP (tW T l0 10) fun r5 =>
      gd (tK T r5 = 1) <|
      gd (vi l1 (tA T r5).length) <|
      bS ((tA T r5).getD l1.toNatClampNeg 0) fun r6 =>
      gd (tK T r6 = 2) <|
      gd (tK T r6 = 2) <|
      bP (h_1001 r6 T) fun r7 =>
      gd (tK T r4 = 7) <|
      bS (tsB T r4 (xadd (tC T r4) (tB T r4) r7)) fun T8 =>
      h_11045_L9 n l0 (l1 + 1) T8
def h_11045 (me : Nat) (T : Tx) : Option Tx :=
  gd (tK T me = 12) <|
  bP (tW T me 11) fun r9 =>
  gd (tK T r9 = 7) <|
  bS (tsB T r9 []) fun T10 =>
  h_11045_L9 100 me 0 T10
theorem sh_11045 {F : Nat → Prop} {d : Nat} {G : ab_G} {T : Tx} {P : ab_Pq} {X : ab_Xq} (h2 : Rep2 F G T) {me : Nat} {o : Tx} (ho : h_11045 me T = some o) (h : ∀ G1, Rep2 F G1 o → SameF F G G1 → P G1 none) : ab_Gam (d + 44) 11045 [.ref me] G P X := by
  have hF : SameF F G G := SameF_rfl
  unfold h_11045 at ho
  refine ab_enter (I := i11045) rfl (Nat.le_of_ble_eq_true rfl) (fun R hR => ?_)
  have h11045_L9 : ∀ (n : Nat) (l0 : Nat) (l1 : Int32)  (T : Tx) (Ga : ab_G) (bc bs : Nat) (h2 : Rep2 F Ga T) (hFa : SameF F G Ga) (ho : h_11045_L9 n l0 l1 T = some o), R 9 [some (.ref l0), some (.int l1)] [] Ga bc bs := by
    intro n
    induction n with
    | zero => intro l0 l1  T Ga bc bs h2 hFa ho; exact absurd ho (by intro hc; cases hc)
    | succ n9 ih9 =>
      intro l0 l1  T Ga bc bs h2 hFa ho
      rw [h_11045_L9] at ho
      refine us_iload_n hR dX10_noteMarks_9 rfl ?_
      refine us_aload_n hR dX10_noteMarks_10 rfl ?_
      have hg := gd_c ho
      rw [gd_e hg] at ho
      obtain ⟨r1, hr1⟩ := bP_ex ho
      replace ho := bP_go ho hr1
      refine uh_getR h2 hg (by decide) hr1 hR dX10_noteMarks_11 fR_11_67 rfl ?_
      have hg := gd_c ho
      rw [gd_e hg] at ho
      refine us_pri5 hR dX10_noteMarks_14 (by decide +kernel) rfl (H_lst0 h2 hg) rfl (Nat.le_of_ble_eq_true rfl) (Nat.zero_le _) (Nat.zero_le _) ?_
      refine hl_size h2 hg ?_
      refine us_icmp_ge hR dX10_noteMarks_17 47 (by decide) (fun c3 => ?_) (fun c3 => ?_)
      · rw [if_pos c3] at ho
        refine us_vret hR dX10_noteMarks_47 rfl ?_
        cases ho
        exact h _ h2 hFa
      · rw [if_neg c3] at ho
        refine us_aload_n hR dX10_noteMarks_20 rfl ?_
        have hg := gd_c ho
        rw [gd_e hg] at ho
        obtain ⟨r4, hr4⟩ := bP_ex ho
        replace ho := bP_go ho hr4
        refine uh_getR h2 hg (by decide) hr4 hR dX10_noteMarks_21 fR_11_70 rfl ?_
        refine us_aload_n hR dX10_noteMarks_24 rfl ?_
        have hg := gd_c ho
        rw [gd_e hg] at ho
        obtain ⟨r5, hr5⟩ := bP_ex ho
        replace ho := bP_go ho hr5
        refine uh_getR h2 hg (by decide) hr5 hR dX10_noteMarks_25 fR_11_67 rfl ?_
        refine us_iload_n hR dX10_noteMarks_28 rfl ?_
        have hg := gd_c ho
        rw [gd_e hg] at ho
        have hk := hg
        have hg := gd_c ho
        rw [gd_e hg] at ho
        refine us_pri6 hR dX10_noteMarks_29 (by decide +kernel) rfl (H_lst0 h2 hk) rfl (Nat.le_of_ble_eq_true rfl) (Nat.zero_le _) (Nat.zero_le _) ?_
        refine hl_get h2 hk hg ?_
        obtain ⟨r6, hr6⟩ : ∃ r, r = (tA T r5).getD l1.toNatClampNeg 0 := ⟨_, rfl⟩
        rw [← hr6]
        rw [← hr6, bS_eq] at ho
        have hg := gd_c ho
        rw [gd_e hg] at ho
        refine us_cast hR dX10_noteMarks_32 (by decide +kernel) (H_kind1 h2 hg (by decide)) (by decide) ?_
        have hg := gd_c ho
        rw [gd_e hg] at ho
        refine us_callV hR dX10_noteMarks_35 (y := 1001) (by decide +kernel) (by decide) (J := i1001) rfl rfl rfl rfl (H_kind1 h2 hg (by decide)) rfl (Nat.le_of_ble_eq_true rfl) (Nat.zero_le _) (Nat.zero_le _) ?_
        obtain ⟨r7, hr7⟩ := bP_ex ho
        replace ho := bP_go ho hr7
        refine sh_1001 h2 hr7 ?_
        have hg := gd_c ho
        rw [gd_e hg] at ho
        refine us_callV hR dX10_noteMarks_38 (y := 6004) (by decide +kernel) (by decide) (J := i6004) rfl rfl rfl rfl (H_row6 h2 hg) rfl (Nat.le_of_ble_eq_true rfl) (Nat.zero_le _) (Nat.zero_le _) ?_
        refine hr_add h2 hg (fun G8 T8 hs8 h28 hF8 => ?_)
        rw [← hs8, bS_eq] at ho
        have hF8 := hFa.tr hF8
        refine us_iincC hR dX10_noteMarks_41 rfl (Nat.le_of_ble_eq_true rfl) (c := 1) (by decide) ?_
        refine us_goto hR dX10_noteMarks_44 9 (by decide) ?_
        exact ih9 l0 (l1 + 1)  T8 G8 _ _ h28 hF8 ho
  refine us_aload_n hR dX10_noteMarks_0 rfl ?_
  have hg := gd_c ho
  rw [gd_e hg] at ho
  obtain ⟨r9, hr9⟩ := bP_ex ho
  replace ho := bP_go ho hr9
  refine uh_getR h2 hg (by decide) hr9 hR dX10_noteMarks_1 fR_11_70 rfl ?_
  have hg := gd_c ho
  rw [gd_e hg] at ho
  refine us_callV hR dX10_noteMarks_4 (y := 6008) (by decide +kernel) (by decide) (J := i6008) rfl rfl rfl rfl (H_row6 h2 hg) rfl (Nat.le_of_ble_eq_true rfl) (Nat.zero_le _) (Nat.zero_le _) ?_
  refine hr_empty h2 hg (fun G10 T10 hs10 h210 hF10 => ?_)
  rw [← hs10, bS_eq] at ho
  have hF10 := hF.tr hF10
  refine us_iconstC hR dX10_noteMarks_7 (c := 0) (by decide) ?_
  refine us_istore_n hR dX10_noteMarks_8 (Nat.le_of_ble_eq_true rfl) ?_
  exact h11045_L9 _ me 0  T10 G10 _ _ h210 hF10 ho
def h_11046 (me : Nat) (x0 : Int32) (x1 : Int32) (T : Tx) : Option (Nat ⊕ Int32) :=
  gd (tK T me = 12) <|
  bXn (h_11039 me (if x0 < x1 then x1 else x0) T) fun r1 =>
  gd (tK T r1 = 2) <|
  bP (tW T r1 6) fun r2 =>
  gd (tK T r2 = 7) <|
  some (.inr (xg (tB T r2) (if x1 < x0 then x1 else x0)))
theorem sh_11046 {F : Nat → Prop} {d : Nat} {G : ab_G} {T : Tx} {P : ab_Pq} {X : ab_Xq} (h2 : Rep2 F G T) {me : Nat} {x0 : Int32} {x1 : Int32} {o : (Nat ⊕ Int32)} (ho : h_11046 me x0 x1 T = some o) (h : ∀ v, o = .inr v → P G (some (.int v))) (hX : ∀ e, o = .inl e → X G (exn e)) : ab_Gam (d + 43) 11046 [.ref me, .int x0, .int x1] G P X := by
  have hF : SameF F G G := SameF_rfl
  unfold h_11046 at ho
  refine ab_enter (I := i11046) rfl (Nat.le_of_ble_eq_true rfl) (fun R hR => ?_)
  change R _ _ _ _ 1 6
  refine us_aload_n hR dX10_commonOf_0 rfl ?_
  refine us_iload_n hR dX10_commonOf_1 rfl ?_
  refine us_iload_n hR dX10_commonOf_2 rfl ?_
  refine us_math1 hR dX10_commonOf_3 (by decide +kernel) (Nat.le_of_ble_eq_true rfl) ?_
  have hg := gd_c ho
  rw [gd_e hg] at ho
  refine us_callV hR dX10_commonOf_6 (y := 11039) (by decide +kernel) (by decide) (J := i11039) rfl rfl rfl rfl (H_kind1 h2 hg (by decide)) rfl (Nat.le_of_ble_eq_true rfl) (Nat.le_of_ble_eq_true rfl) (Nat.le_of_ble_eq_true rfl) ?_
  obtain ⟨q1, hq1⟩ := bXn_ex ho
  rw [hq1] at ho
  refine sh_11039 h2 hq1 (fun r1 hr1 => ?_) (fun e1 hr1 => ?_)
  rotate_left
  · subst hr1
    cases ho
    exact ⟨rfl, hX _ rfl⟩
  subst hr1
  rw [bXn_some] at ho
  change R _ _ _ _ 0 0
  have hg := gd_c ho
  rw [gd_e hg] at ho
  obtain ⟨r2, hr2⟩ := bP_ex ho
  replace ho := bP_go ho hr2
  refine uh_getR h2 hg (by decide) hr2 hR dX10_commonOf_9 fR_11_251 rfl ?_
  refine us_iload_n hR dX10_commonOf_12 rfl ?_
  refine us_iload_n hR dX10_commonOf_13 rfl ?_
  refine us_math2 hR dX10_commonOf_14 (by decide +kernel) (Nat.le_of_ble_eq_true rfl) ?_
  have hg := gd_c ho
  rw [gd_e hg] at ho
  refine us_callV hR dX10_commonOf_17 (y := 6002) (by decide +kernel) (by decide) (J := i6002) rfl rfl rfl rfl (H_row6 h2 hg) rfl (Nat.le_of_ble_eq_true rfl) (Nat.zero_le _) (Nat.zero_le _) ?_
  refine hr_get h2 hg ?_
  refine us_iret hR dX10_commonOf_20 rfl rfl ?_
  cases ho
  exact h _ rfl
def h_11047 (me : Nat) (x0 : Int32) (x1 : Int32) (T : Tx) : Option (Nat ⊕ Int32) :=
  gd (tK T me = 12) <|
  bXn (h_11039 me x0 T) fun r1 =>
  gd (tK T r1 = 2) <|
  bP (tW T r1 2) fun r2 =>
  gd (tK T r2 = 5) <|
  bP (h_4004 r2 T) fun r3 =>
  gd (tK T me = 12) <|
  bXn (h_11039 me x1 T) fun r4 =>
  gd (tK T r4 = 2) <|
  bP (tW T r4 2) fun r5 =>
  gd (tK T r5 = 5) <|
  bP (h_4004 r5 T) fun r6 =>
  if (r3 + r6) = 0 then
    some (.inr 0)
  else
    gd (tK T me = 12) <|
    bXn (h_11046 me x0 x1 T) fun r8 =>
    gd (¬ ((r3 + r6) : Int32) = 0) <|
    some (.inr ((200 * r8) / (r3 + r6)))
theorem sh_11047 {F : Nat → Prop} {d : Nat} {G : ab_G} {T : Tx} {P : ab_Pq} {X : ab_Xq} (h2 : Rep2 F G T) {me : Nat} {x0 : Int32} {x1 : Int32} {o : (Nat ⊕ Int32)} (ho : h_11047 me x0 x1 T = some o) (h : ∀ v, o = .inr v → P G (some (.int v))) (hX : ∀ e, o = .inl e → X G (exn e)) : ab_Gam (d + 44) 11047 [.ref me, .int x0, .int x1] G P X := by
  have hF : SameF F G G := SameF_rfl
  unfold h_11047 at ho
  refine ab_enter (I := i11047) rfl (Nat.le_of_ble_eq_true rfl) (fun R hR => ?_)
  change R _ _ _ _ 4 24
  refine us_aload_n hR dX10_likenessOf_0 rfl ?_
  refine us_iload_n hR dX10_likenessOf_1 rfl ?_
  have hg := gd_c ho
  rw [gd_e hg] at ho
  refine us_callV hR dX10_likenessOf_2 (y := 11039) (by decide +kernel) (by decide) (J := i11039) rfl rfl rfl rfl (H_kind1 h2 hg (by decide)) rfl (Nat.le_of_ble_eq_true rfl) (Nat.le_of_ble_eq_true rfl) (Nat.le_of_ble_eq_true rfl) ?_
  obtain ⟨q1, hq1⟩ := bXn_ex ho
  rw [hq1] at ho
  refine sh_11039 h2 hq1 (fun r1 hr1 => ?_) (fun e1 hr1 => ?_)
  rotate_left
  · subst hr1
    cases ho
    exact ⟨rfl, hX _ rfl⟩
  subst hr1
  rw [bXn_some] at ho
  change R _ _ _ _ 3 18
  have hg := gd_c ho
  rw [gd_e hg] at ho
  obtain ⟨r2, hr2⟩ := bP_ex ho
  replace ho := bP_go ho hr2
  refine uh_getR h2 hg (by decide) hr2 hR dX10_likenessOf_5 fR_11_254 rfl ?_
  have hg := gd_c ho
  rw [gd_e hg] at ho
  refine us_callV hR dX10_likenessOf_8 (y := 4004) (by decide +kernel) (by decide) (J := i4004) rfl rfl rfl rfl (H_kind1 h2 hg (by decide)) rfl (Nat.le_of_ble_eq_true rfl) (Nat.zero_le _) (Nat.zero_le _) ?_
  obtain ⟨r3, hr3⟩ := bP_ex ho
  replace ho := bP_go ho hr3
  refine sh_4004 h2 hr3 ?_
  refine us_aload_n hR dX10_likenessOf_11 rfl ?_
  refine us_iload_n hR dX10_likenessOf_12 rfl ?_
  have hg := gd_c ho
  rw [gd_e hg] at ho
  refine us_callV hR dX10_likenessOf_13 (y := 11039) (by decide +kernel) (by decide) (J := i11039) rfl rfl rfl rfl (H_kind1 h2 hg (by decide)) rfl (Nat.le_of_ble_eq_true rfl) (Nat.le_of_ble_eq_true rfl) (Nat.le_of_ble_eq_true rfl) ?_
  obtain ⟨q4, hq4⟩ := bXn_ex ho
  rw [hq4] at ho
  refine sh_11039 h2 hq4 (fun r4 hr4 => ?_) (fun e4 hr4 => ?_)
  rotate_left
  · subst hr4
    cases ho
    exact ⟨rfl, hX _ rfl⟩
  subst hr4
  rw [bXn_some] at ho
  change R _ _ _ _ 2 12
  have hg := gd_c ho
  rw [gd_e hg] at ho
  obtain ⟨r5, hr5⟩ := bP_ex ho
  replace ho := bP_go ho hr5
  refine uh_getR h2 hg (by decide) hr5 hR dX10_likenessOf_16 fR_11_254 rfl ?_
  have hg := gd_c ho
  rw [gd_e hg] at ho
  refine us_callV hR dX10_likenessOf_19 (y := 4004) (by decide +kernel) (by decide) (J := i4004) rfl rfl rfl rfl (H_kind1 h2 hg (by decide)) rfl (Nat.le_of_ble_eq_true rfl) (Nat.zero_le _) (Nat.zero_le _) ?_
  obtain ⟨r6, hr6⟩ := bP_ex ho
  replace ho := bP_go ho hr6
  refine sh_4004 h2 hr6 ?_
  refine us_iadd hR dX10_likenessOf_22 ?_
  refine us_istore_n hR dX10_likenessOf_23 (Nat.le_of_ble_eq_true rfl) ?_
  refine us_iload_n hR dX10_likenessOf_24 rfl ?_
  refine us_if_ne hR dX10_likenessOf_25 32 (by decide) (fun c7 => ?_) (fun c7 => ?_)
  · rw [if_neg c7] at ho
    change R _ _ _ _ 2 12
    refine us_sipushC hR dX10_likenessOf_32 (c := 200) (by decide) ?_
    refine us_aload_n hR dX10_likenessOf_35 rfl ?_
    refine us_iload_n hR dX10_likenessOf_36 rfl ?_
    refine us_iload_n hR dX10_likenessOf_37 rfl ?_
    have hg := gd_c ho
    rw [gd_e hg] at ho
    refine us_callV hR dX10_likenessOf_38 (y := 11046) (by decide +kernel) (by decide) (J := i11046) rfl rfl rfl rfl (H_kind1 h2 hg (by decide)) rfl (Nat.le_of_ble_eq_true rfl) (Nat.le_of_ble_eq_true rfl) (Nat.le_of_ble_eq_true rfl) ?_
    obtain ⟨q8, hq8⟩ := bXn_ex ho
    rw [hq8] at ho
    refine sh_11046 h2 hq8 (fun r8 hr8 => ?_) (fun e8 hr8 => ?_)
    rotate_left
    · subst hr8
      cases ho
      exact ⟨rfl, hX _ rfl⟩
    subst hr8
    rw [bXn_some] at ho
    change R _ _ _ _ 1 6
    refine us_imul hR dX10_likenessOf_41 ?_
    refine us_iload_n hR dX10_likenessOf_42 rfl ?_
    have hg := gd_c ho
    rw [gd_e hg] at ho
    refine us_idiv hR dX10_likenessOf_43 hg ?_
    refine us_iret hR dX10_likenessOf_44 rfl rfl ?_
    cases ho
    exact h _ rfl
  · rw [if_pos c7] at ho
    change R _ _ _ _ 2 12
    refine us_iconstC hR dX10_likenessOf_28 (c := 0) (by decide) ?_
    refine us_goto hR dX10_likenessOf_29 44 (by decide) ?_
    refine us_iret hR dX10_likenessOf_44 rfl rfl ?_
    cases ho
    exact h _ rfl
def h_11048 (me : Nat) (x0 : Int32) (x1 : Int32) (T : Tx) : Option (Nat ⊕ Int32) :=
  gd (tK T me = 12) <|
  bXn (h_11039 me x0 T) fun r1 =>
  gd (tK T me = 12) <|
  bXn (h_11039 me x1 T) fun r2 =>
  if x0 ≤ x1 then
    some (.inr 0)
  else
    gd (tK T r1 = 2) <|
    gd (tK T r2 = 2) <|
    if (tV T r1 0) = (tV T r2 0) then
      some (.inr 0)
    else
      gd (tK T r1 = 2) <|
      bP (tW T r1 1) fun r5 =>
      gd (tK T r5 = 3) <|
      gd (tK T r2 = 2) <|
      bP (tW T r2 1) fun r6 =>
      gd (tK T r6 = 3) <|
      if (tV T r5 0) = (tV T r6 0) then
        gd (tK T me = 12) <|
        bXn (h_11047 me x0 x1 T) fun r8 =>
        if r8 < 80 then
          some (.inr 0)
        else
          gd (tK T me = 12) <|
          bXn (h_11046 me x0 x1 T) fun r10 =>
          if r10 < 3 then
            some (.inr 0)
          else
            some (.inr 1)
      else
        some (.inr 0)
theorem sh_11048 {F : Nat → Prop} {d : Nat} {G : ab_G} {T : Tx} {P : ab_Pq} {X : ab_Xq} (h2 : Rep2 F G T) {me : Nat} {x0 : Int32} {x1 : Int32} {o : (Nat ⊕ Int32)} (ho : h_11048 me x0 x1 T = some o) (h : ∀ v, o = .inr v → P G (some (.int v))) (hX : ∀ e, o = .inl e → X G (exn e)) : ab_Gam (d + 45) 11048 [.ref me, .int x0, .int x1] G P X := by
  have hF : SameF F G G := SameF_rfl
  unfold h_11048 at ho
  refine ab_enter (I := i11048) rfl (Nat.le_of_ble_eq_true rfl) (fun R hR => ?_)
  change R _ _ _ _ 12 72
  refine us_aload_n hR dX10_canAccuse_0 rfl ?_
  refine us_iload_n hR dX10_canAccuse_1 rfl ?_
  have hg := gd_c ho
  rw [gd_e hg] at ho
  refine us_callV hR dX10_canAccuse_2 (y := 11039) (by decide +kernel) (by decide) (J := i11039) rfl rfl rfl rfl (H_kind1 h2 hg (by decide)) rfl (Nat.le_of_ble_eq_true rfl) (Nat.le_of_ble_eq_true rfl) (Nat.le_of_ble_eq_true rfl) ?_
  obtain ⟨q1, hq1⟩ := bXn_ex ho
  rw [hq1] at ho
  refine sh_11039 h2 hq1 (fun r1 hr1 => ?_) (fun e1 hr1 => ?_)
  rotate_left
  · subst hr1
    cases ho
    exact ⟨rfl, hX _ rfl⟩
  subst hr1
  rw [bXn_some] at ho
  change R _ _ _ _ 11 66
  refine us_astore_n hR dX10_canAccuse_5 (Nat.le_of_ble_eq_true rfl) ?_
  refine us_aload_n hR dX10_canAccuse_6 rfl ?_
  refine us_iload_n hR dX10_canAccuse_7 rfl ?_
  have hg := gd_c ho
  rw [gd_e hg] at ho
  refine us_callV hR dX10_canAccuse_8 (y := 11039) (by decide +kernel) (by decide) (J := i11039) rfl rfl rfl rfl (H_kind1 h2 hg (by decide)) rfl (Nat.le_of_ble_eq_true rfl) (Nat.le_of_ble_eq_true rfl) (Nat.le_of_ble_eq_true rfl) ?_
  obtain ⟨q2, hq2⟩ := bXn_ex ho
  rw [hq2] at ho
  refine sh_11039 h2 hq2 (fun r2 hr2 => ?_) (fun e2 hr2 => ?_)
  rotate_left
  · subst hr2
    cases ho
    exact ⟨rfl, hX _ rfl⟩
  subst hr2
  rw [bXn_some] at ho
  change R _ _ _ _ 10 60
  refine us_astore hR dX10_canAccuse_11 (Nat.le_of_ble_eq_true rfl) ?_
  refine us_iload_n hR dX10_canAccuse_13 rfl ?_
  refine us_iload_n hR dX10_canAccuse_14 rfl ?_
  refine us_icmp_ge hR dX10_canAccuse_15 73 (by decide) (fun c3 => ?_) (fun c3 => ?_)
  · rw [if_pos c3] at ho
    change R _ _ _ _ 10 60
    refine us_iconstC hR dX10_canAccuse_73 (c := 0) (by decide) ?_
    refine us_iret hR dX10_canAccuse_74 rfl (nar01 (Or.inl rfl)) ?_
    cases ho
    exact h _ rfl
  · rw [if_neg c3] at ho
    change R _ _ _ _ 10 60
    refine us_aload_n hR dX10_canAccuse_18 rfl ?_
    have hg := gd_c ho
    rw [gd_e hg] at ho
    refine uh_getI (ci := 1) (f := 0) h2 hg (by decide) hR dX10_canAccuse_19 fR_11_290 rfl ?_
    refine us_aload hR dX10_canAccuse_22 rfl ?_
    have hg := gd_c ho
    rw [gd_e hg] at ho
    refine uh_getI (ci := 1) (f := 0) h2 hg (by decide) hR dX10_canAccuse_24 fR_11_290 rfl ?_
    refine us_icmp_eq hR dX10_canAccuse_27 73 (by decide) (fun c4 => ?_) (fun c4 => ?_)
    · rw [if_pos c4] at ho
      change R _ _ _ _ 10 60
      refine us_iconstC hR dX10_canAccuse_73 (c := 0) (by decide) ?_
      refine us_iret hR dX10_canAccuse_74 rfl (nar01 (Or.inl rfl)) ?_
      cases ho
      exact h _ rfl
    · rw [if_neg c4] at ho
      change R _ _ _ _ 10 60
      refine us_aload_n hR dX10_canAccuse_30 rfl ?_
      have hg := gd_c ho
      rw [gd_e hg] at ho
      obtain ⟨r5, hr5⟩ := bP_ex ho
      replace ho := bP_go ho hr5
      refine uh_getR h2 hg (by decide) hr5 hR dX10_canAccuse_31 fR_11_210 rfl ?_
      have hg := gd_c ho
      rw [gd_e hg] at ho
      refine uh_getI (ci := 2) (f := 0) h2 hg (by decide) hR dX10_canAccuse_34 fR_11_214 rfl ?_
      refine us_aload hR dX10_canAccuse_37 rfl ?_
      have hg := gd_c ho
      rw [gd_e hg] at ho
      obtain ⟨r6, hr6⟩ := bP_ex ho
      replace ho := bP_go ho hr6
      refine uh_getR h2 hg (by decide) hr6 hR dX10_canAccuse_39 fR_11_210 rfl ?_
      have hg := gd_c ho
      rw [gd_e hg] at ho
      refine uh_getI (ci := 2) (f := 0) h2 hg (by decide) hR dX10_canAccuse_42 fR_11_214 rfl ?_
      refine us_icmp_ne hR dX10_canAccuse_45 73 (by decide) (fun c7 => ?_) (fun c7 => ?_)
      · rw [if_neg c7] at ho
        change R _ _ _ _ 10 60
        refine us_iconstC hR dX10_canAccuse_73 (c := 0) (by decide) ?_
        refine us_iret hR dX10_canAccuse_74 rfl (nar01 (Or.inl rfl)) ?_
        cases ho
        exact h _ rfl
      · rw [if_pos c7] at ho
        change R _ _ _ _ 10 60
        refine us_aload_n hR dX10_canAccuse_48 rfl ?_
        refine us_iload_n hR dX10_canAccuse_49 rfl ?_
        refine us_iload_n hR dX10_canAccuse_50 rfl ?_
        have hg := gd_c ho
        rw [gd_e hg] at ho
        refine us_callV hR dX10_canAccuse_51 (y := 11047) (by decide +kernel) (by decide) (J := i11047) rfl rfl rfl rfl (H_kind1 h2 hg (by decide)) rfl (Nat.le_of_ble_eq_true rfl) (Nat.le_of_ble_eq_true rfl) (Nat.le_of_ble_eq_true rfl) ?_
        obtain ⟨q8, hq8⟩ := bXn_ex ho
        rw [hq8] at ho
        refine sh_11047 h2 hq8 (fun r8 hr8 => ?_) (fun e8 hr8 => ?_)
        rotate_left
        · subst hr8
          cases ho
          exact ⟨rfl, hX _ rfl⟩
        subst hr8
        rw [bXn_some] at ho
        change R _ _ _ _ 6 36
        refine us_bipushC hR dX10_canAccuse_54 (c := 80) (by decide) ?_
        refine us_icmp_lt hR dX10_canAccuse_56 73 (by decide) (fun c9 => ?_) (fun c9 => ?_)
        · rw [if_pos c9] at ho
          change R _ _ _ _ 6 36
          refine us_iconstC hR dX10_canAccuse_73 (c := 0) (by decide) ?_
          refine us_iret hR dX10_canAccuse_74 rfl (nar01 (Or.inl rfl)) ?_
          cases ho
          exact h _ rfl
        · rw [if_neg c9] at ho
          change R _ _ _ _ 6 36
          refine us_aload_n hR dX10_canAccuse_59 rfl ?_
          refine us_iload_n hR dX10_canAccuse_60 rfl ?_
          refine us_iload_n hR dX10_canAccuse_61 rfl ?_
          have hg := gd_c ho
          rw [gd_e hg] at ho
          refine us_callV hR dX10_canAccuse_62 (y := 11046) (by decide +kernel) (by decide) (J := i11046) rfl rfl rfl rfl (H_kind1 h2 hg (by decide)) rfl (Nat.le_of_ble_eq_true rfl) (Nat.le_of_ble_eq_true rfl) (Nat.le_of_ble_eq_true rfl) ?_
          obtain ⟨q10, hq10⟩ := bXn_ex ho
          rw [hq10] at ho
          refine sh_11046 h2 hq10 (fun r10 hr10 => ?_) (fun e10 hr10 => ?_)
          rotate_left
          · subst hr10
            cases ho
            exact ⟨rfl, hX _ rfl⟩
          subst hr10
          rw [bXn_some] at ho
          change R _ _ _ _ 5 30
          refine us_iconstC hR dX10_canAccuse_65 (c := 3) (by decide) ?_
          refine us_icmp_lt hR dX10_canAccuse_66 73 (by decide) (fun c11 => ?_) (fun c11 => ?_)
          · rw [if_pos c11] at ho
            change R _ _ _ _ 5 30
            refine us_iconstC hR dX10_canAccuse_73 (c := 0) (by decide) ?_
            refine us_iret hR dX10_canAccuse_74 rfl (nar01 (Or.inl rfl)) ?_
            cases ho
            exact h _ rfl
          · rw [if_neg c11] at ho
            change R _ _ _ _ 5 30
            refine us_iconstC hR dX10_canAccuse_69 (c := 1) (by decide) ?_
            refine us_goto hR dX10_canAccuse_70 74 (by decide) ?_
            refine us_iret hR dX10_canAccuse_74 rfl (nar01 (Or.inr rfl)) ?_
            cases ho
            exact h _ rfl
end
