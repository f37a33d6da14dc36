/-! shadows over the plain heap: getters, tests, exercises, answers, parts in common -/
def h_7003 (me : Nat) (T : Tx) : Option Int32 :=
  gd (tK T me = 8) <|
  some ((tV T me 8))
theorem sh_7003 {F : Nat → Prop} {d : Nat} {G : ab_G} {T : Tx} {P : ab_Pq} {X : ab_Xq} (h2 : Rep2 F G T) {me : Nat} {o : Int32} (ho : h_7003 me T = some o) (h : P G (some (.int o))) : ab_Gam (d + 1) 7003 [.ref me] G P X := by
  have hF : SameF F G G := SameF_rfl
  unfold h_7003 at ho
  refine ab_enter (I := i7003) rfl (Nat.le_of_ble_eq_true rfl) (fun R hR => ?_)
  refine us_aload_n hR dX6_end_0 rfl ?_
  have hg := gd_c ho
  rw [gd_e hg] at ho
  refine uh_getI (ci := 7) (f := 8) h2 hg (by decide) hR dX6_end_1 fR_7_29 rfl ?_
  refine us_iret hR dX6_end_4 rfl rfl ?_
  cases ho
  exact h
def h_7004 (me : Nat) (T : Tx) : Option Int32 :=
  gd (tK T me = 8) <|
  some ((tV T me 4))
theorem sh_7004 {F : Nat → Prop} {d : Nat} {G : ab_G} {T : Tx} {P : ab_Pq} {X : ab_Xq} (h2 : Rep2 F G T) {me : Nat} {o : Int32} (ho : h_7004 me T = some o) (h : P G (some (.int o))) : ab_Gam (d + 1) 7004 [.ref me] G P X := by
  have hF : SameF F G G := SameF_rfl
  unfold h_7004 at ho
  refine ab_enter (I := i7004) rfl (Nat.le_of_ble_eq_true rfl) (fun R hR => ?_)
  refine us_aload_n hR dX6_fuel_0 rfl ?_
  have hg := gd_c ho
  rw [gd_e hg] at ho
  refine uh_getI (ci := 7) (f := 4) h2 hg (by decide) hR dX6_fuel_1 fR_7_39 rfl ?_
  refine us_iret hR dX6_fuel_4 rfl rfl ?_
  cases ho
  exact h
def h_7005 (me : Nat) (T : Tx) : Option Int32 :=
  gd (tK T me = 8) <|
  bP (tW T me 0) fun r1 =>
  gd (tK T r1 = 7) <|
  some ((nI (tB T r1).length))
theorem sh_7005 {F : Nat → Prop} {d : Nat} {G : ab_G} {T : Tx} {P : ab_Pq} {X : ab_Xq} (h2 : Rep2 F G T) {me : Nat} {o : Int32} (ho : h_7005 me T = some o) (h : P G (some (.int o))) : ab_Gam (d + 2) 7005 [.ref me] G P X := by
  have hF : SameF F G G := SameF_rfl
  unfold h_7005 at ho
  refine ab_enter (I := i7005) rfl (Nat.le_of_ble_eq_true rfl) (fun R hR => ?_)
  refine us_aload_n hR dX6_outputCount_0 rfl ?_
  have hg := gd_c ho
  rw [gd_e hg] at ho
  obtain ⟨r1, hr1⟩ := bP_ex ho
  replace ho := bP_go ho hr1
  refine uh_getR h2 hg (by decide) hr1 hR dX6_outputCount_1 fR_7_14 rfl ?_
  have hg := gd_c ho
  rw [gd_e hg] at ho
  refine us_callV hR dX6_outputCount_4 (y := 6001) (by decide +kernel) (by decide) (J := i6001) rfl rfl rfl rfl (H_row6 h2 hg) rfl (Nat.le_of_ble_eq_true rfl) (Nat.zero_le _) (Nat.zero_le _) ?_
  refine hr_size h2 hg ?_
  refine us_iret hR dX6_outputCount_7 rfl rfl ?_
  cases ho
  exact h
def h_7006 (me : Nat) (x0 : Int32) (T : Tx) : Option Int32 :=
  gd (tK T me = 8) <|
  bP (tW T me 0) fun r1 =>
  gd (tK T r1 = 7) <|
  some ((xg (tB T r1) x0))
theorem sh_7006 {F : Nat → Prop} {d : Nat} {G : ab_G} {T : Tx} {P : ab_Pq} {X : ab_Xq} (h2 : Rep2 F G T) {me : Nat} {x0 : Int32} {o : Int32} (ho : h_7006 me x0 T = some o) (h : P G (some (.int o))) : ab_Gam (d + 2) 7006 [.ref me, .int x0] G P X := by
  have hF : SameF F G G := SameF_rfl
  unfold h_7006 at ho
  refine ab_enter (I := i7006) rfl (Nat.le_of_ble_eq_true rfl) (fun R hR => ?_)
  refine us_aload_n hR dX6_output_0 rfl ?_
  have hg := gd_c ho
  rw [gd_e hg] at ho
  obtain ⟨r1, hr1⟩ := bP_ex ho
  replace ho := bP_go ho hr1
  refine uh_getR h2 hg (by decide) hr1 hR dX6_output_1 fR_7_14 rfl ?_
  refine us_iload_n hR dX6_output_4 rfl ?_
  have hg := gd_c ho
  rw [gd_e hg] at ho
  refine us_callV hR dX6_output_5 (y := 6002) (by decide +kernel) (by decide) (J := i6002) rfl rfl rfl rfl (H_row6 h2 hg) rfl (Nat.le_of_ble_eq_true rfl) (Nat.zero_le _) (Nat.zero_le _) ?_
  refine hr_get h2 hg ?_
  refine us_iret hR dX6_output_8 rfl rfl ?_
  cases ho
  exact h
def h_7007 (me : Nat) (x0 : Int32) (T : Tx) : Option Int32 :=
  gd (tK T me = 8) <|
  bP (tW T me 1) fun r1 =>
  gd (tK T r1 = 7) <|
  some ((xg (tB T r1) x0))
theorem sh_7007 {F : Nat → Prop} {d : Nat} {G : ab_G} {T : Tx} {P : ab_Pq} {X : ab_Xq} (h2 : Rep2 F G T) {me : Nat} {x0 : Int32} {o : Int32} (ho : h_7007 me x0 T = some o) (h : P G (some (.int o))) : ab_Gam (d + 2) 7007 [.ref me, .int x0] G P X := by
  have hF : SameF F G G := SameF_rfl
  unfold h_7007 at ho
  refine ab_enter (I := i7007) rfl (Nat.le_of_ble_eq_true rfl) (fun R hR => ?_)
  refine us_aload_n hR dX6_cell_0 rfl ?_
  have hg := gd_c ho
  rw [gd_e hg] at ho
  obtain ⟨r1, hr1⟩ := bP_ex ho
  replace ho := bP_go ho hr1
  refine uh_getR h2 hg (by decide) hr1 hR dX6_cell_1 fR_7_20 rfl ?_
  refine us_iload_n hR dX6_cell_4 rfl ?_
  have hg := gd_c ho
  rw [gd_e hg] at ho
  refine us_callV hR dX6_cell_5 (y := 6002) (by decide +kernel) (by decide) (J := i6002) rfl rfl rfl rfl (H_row6 h2 hg) rfl (Nat.le_of_ble_eq_true rfl) (Nat.zero_le _) (Nat.zero_le _) ?_
  refine hr_get h2 hg ?_
  refine us_iret hR dX6_cell_8 rfl rfl ?_
  cases ho
  exact h
def h_4004 (me : Nat) (T : Tx) : Option Int32 :=
  gd (tK T me = 5) <|
  bP (tW T me 1) fun r1 =>
  gd (tK T r1 = 7) <|
  some ((nI (tB T r1).length))
theorem sh_4004 {F : Nat → Prop} {d : Nat} {G : ab_G} {T : Tx} {P : ab_Pq} {X : ab_Xq} (h2 : Rep2 F G T) {me : Nat} {o : Int32} (ho : h_4004 me T = some o) (h : P G (some (.int o))) : ab_Gam (d + 2) 4004 [.ref me] G P X := by
  have hF : SameF F G G := SameF_rfl
  unfold h_4004 at ho
  refine ab_enter (I := i4004) rfl (Nat.le_of_ble_eq_true rfl) (fun R hR => ?_)
  refine us_aload_n hR dX3_partCount_0 rfl ?_
  have hg := gd_c ho
  rw [gd_e hg] at ho
  obtain ⟨r1, hr1⟩ := bP_ex ho
  replace ho := bP_go ho hr1
  refine uh_getR h2 hg (by decide) hr1 hR dX3_partCount_1 fR_4_23 rfl ?_
  have hg := gd_c ho
  rw [gd_e hg] at ho
  refine us_callV hR dX3_partCount_4 (y := 6001) (by decide +kernel) (by decide) (J := i6001) rfl rfl rfl rfl (H_row6 h2 hg) rfl (Nat.le_of_ble_eq_true rfl) (Nat.zero_le _) (Nat.zero_le _) ?_
  refine hr_size h2 hg ?_
  refine us_iret hR dX3_partCount_7 rfl rfl ?_
  cases ho
  exact h
def h_2001 (me : Nat) (x0 : Nat) (T : Tx) : Option Tx :=
  gd (tK T me = 3) <|
  bP (tW T me 3) fun r1 =>
  gd (tK T r1 = 1) <|
  gd ((tA T r1).length ≤ 32 ∧ tK T x0 ≠ 0) <|
  bS (tAdd T r1 x0) fun T2 =>
  some T2
theorem sh_2001 {F : Nat → Prop} {d : Nat} {G : ab_G} {T : Tx} {P : ab_Pq} {X : ab_Xq} (h2 : Rep2 F G T) {me : Nat} {x0 : Nat} {o : Tx} (ho : h_2001 me x0 T = some o) (h : ∀ G1, Rep2 F G1 o → SameF F G G1 → P G1 none) : ab_Gam (d + 42) 2001 [.ref me, .ref x0] G P X := by
  have hF : SameF F G G := SameF_rfl
  unfold h_2001 at ho
  refine ab_enter (I := i2001) rfl (Nat.le_of_ble_eq_true rfl) (fun R hR => ?_)
  change R _ _ _ _ 1 40
  refine us_aload_n hR dX1_add_0 rfl ?_
  have hg := gd_c ho
  rw [gd_e hg] at ho
  obtain ⟨r1, hr1⟩ := bP_ex ho
  replace ho := bP_go ho hr1
  refine uh_getR h2 hg (by decide) hr1 hR dX1_add_1 fR_2_10 rfl ?_
  refine us_aload_n hR dX1_add_4 rfl ?_
  have hg := gd_c ho
  rw [gd_e hg] at ho
  have hk := hg
  have hg := gd_c ho
  rw [gd_e hg] at ho
  refine us_pri7 hR dX1_add_5 (by decide +kernel) rfl (H_lst0 h2 hk) rfl (Nat.le_of_ble_eq_true rfl) (Nat.le_of_ble_eq_true rfl) (Nat.le_of_ble_eq_true rfl) ?_
  refine hl_add h2 hk hg.1 hg.2 (fun G2 T2 hs2 h22 hF2 => ?_)
  rw [← hs2, bS_eq] at ho
  have hF2 := hF.tr hF2
  change R _ _ _ _ 0 0
  refine us_pop hR dX1_add_8 rfl ?_
  refine us_vret hR dX1_add_9 rfl ?_
  cases ho
  exact h _ h22 hF2
def h_2002 (me : Nat) (T : Tx) : Option Int32 :=
  gd (tK T me = 3) <|
  bP (tW T me 3) fun r1 =>
  gd (tK T r1 = 1) <|
  some ((nI (tA T r1).length))
theorem sh_2002 {F : Nat → Prop} {d : Nat} {G : ab_G} {T : Tx} {P : ab_Pq} {X : ab_Xq} (h2 : Rep2 F G T) {me : Nat} {o : Int32} (ho : h_2002 me T = some o) (h : P G (some (.int o))) : ab_Gam (d + 42) 2002 [.ref me] G P X := by
  have hF : SameF F G G := SameF_rfl
  unfold h_2002 at ho
  refine ab_enter (I := i2002) rfl (Nat.le_of_ble_eq_true rfl) (fun R hR => ?_)
  refine us_aload_n hR dX1_testCount_0 rfl ?_
  have hg := gd_c ho
  rw [gd_e hg] at ho
  obtain ⟨r1, hr1⟩ := bP_ex ho
  replace ho := bP_go ho hr1
  refine uh_getR h2 hg (by decide) hr1 hR dX1_testCount_1 fR_2_10 rfl ?_
  have hg := gd_c ho
  rw [gd_e hg] at ho
  refine us_pri5 hR dX1_testCount_4 (by decide +kernel) rfl (H_lst0 h2 hg) rfl (Nat.le_of_ble_eq_true rfl) (Nat.zero_le _) (Nat.zero_le _) ?_
  refine hl_size h2 hg ?_
  refine us_iret hR dX1_testCount_7 rfl rfl ?_
  cases ho
  exact h
def h_2003 (me : Nat) (x0 : Int32) (T : Tx) : Option (Option Nat) :=
  if x0 < 0 then
    some none
  else
    gd (tK T me = 3) <|
    bP (tW T me 3) fun r2 =>
    gd (tK T r2 = 1) <|
    if (nI (tA T r2).length) ≤ x0 then
      some none
    else
      gd (tK T me = 3) <|
      bP (tW T me 3) fun r5 =>
      gd (tK T r5 = 1) <|
      gd (vi x0 (tA T r5).length) <|
      bS ((tA T r5).getD x0.toNatClampNeg 0) fun r6 =>
      gd (tK T r6 = 9) <|
      some ((some r6))
theorem sh_2003 {F : Nat → Prop} {d : Nat} {G : ab_G} {T : Tx} {P : ab_Pq} {X : ab_Xq} (h2 : Rep2 F G T) {me : Nat} {x0 : Int32} {o : (Option Nat)} (ho : h_2003 me x0 T = some o) (h : P G (some (va_rf o))) : ab_Gam (d + 42) 2003 [.ref me, .int x0] G P X := by
  have hF : SameF F G G := SameF_rfl
  unfold h_2003 at ho
  refine ab_enter (I := i2003) rfl (Nat.le_of_ble_eq_true rfl) (fun R hR => ?_)
  refine us_iload_n hR dX1_test_0 rfl ?_
  refine us_if_lt hR dX1_test_1 29 (by decide) (fun c1 => ?_) (fun c1 => ?_)
  · rw [if_pos c1] at ho
    refine us_null hR dX1_test_29 ?_
    refine us_aretN hR dX1_test_30 rfl rfl ?_
    cases ho
    exact h
  · rw [if_neg c1] at ho
    refine us_iload_n hR dX1_test_4 rfl ?_
    refine us_aload_n hR dX1_test_5 rfl ?_
    have hg := gd_c ho
    rw [gd_e hg] at ho
    obtain ⟨r2, hr2⟩ := bP_ex ho
    replace ho := bP_go ho hr2
    refine uh_getR h2 hg (by decide) hr2 hR dX1_test_6 fR_2_10 rfl ?_
    have hg := gd_c ho
    rw [gd_e hg] at ho
    refine us_pri5 hR dX1_test_9 (by decide +kernel) rfl (H_lst0 h2 hg) rfl (Nat.le_of_ble_eq_true rfl) (Nat.zero_le _) (Nat.zero_le _) ?_
    refine hl_size h2 hg ?_
    refine us_icmp_ge hR dX1_test_12 29 (by decide) (fun c4 => ?_) (fun c4 => ?_)
    · rw [if_pos c4] at ho
      refine us_null hR dX1_test_29 ?_
      refine us_aretN hR dX1_test_30 rfl rfl ?_
      cases ho
      exact h
    · rw [if_neg c4] at ho
      refine us_aload_n hR dX1_test_15 rfl ?_
      have hg := gd_c ho
      rw [gd_e hg] at ho
      obtain ⟨r5, hr5⟩ := bP_ex ho
      replace ho := bP_go ho hr5
      refine uh_getR h2 hg (by decide) hr5 hR dX1_test_16 fR_2_10 rfl ?_
      refine us_iload_n hR dX1_test_19 rfl ?_
      have hg := gd_c ho
      rw [gd_e hg] at ho
      have hk := hg
      have hg := gd_c ho
      rw [gd_e hg] at ho
      refine us_pri6 hR dX1_test_20 (by decide +kernel) rfl (H_lst0 h2 hk) rfl (Nat.le_of_ble_eq_true rfl) (Nat.zero_le _) (Nat.zero_le _) ?_
      refine hl_get h2 hk hg ?_
      obtain ⟨r6, hr6⟩ : ∃ r, r = (tA T r5).getD x0.toNatClampNeg 0 := ⟨_, rfl⟩
      rw [← hr6]
      rw [← hr6, bS_eq] at ho
      have hg := gd_c ho
      rw [gd_e hg] at ho
      refine us_cast hR dX1_test_23 (by decide +kernel) (H_kind1 h2 hg (by decide)) (by decide) ?_
      refine us_goto hR dX1_test_26 30 (by decide) ?_
      refine us_aret hR dX1_test_30 rfl rfl ?_
      cases ho
      exact h
def h_2004_L7 : Nat → Nat → Nat → Int32 → Int32 → Int32 → Tx → Option Int32
  | 0, _, _, _, _, _, _ => none
  | n + 1, l0, l1, l2, l3, l4, T =>
    gd (tK T l0 = 3) <|
    bP (tW T l0 3) fun r1 =>
    gd (tK T r1 = 1) <|
    if (nI (tA T r1).length) ≤ l4 then
      if l2 = 0 then
        some 0
      else
        gd (¬ (l2 : Int32) = 0) <|
        some (((100 * l3) / l2))
    else
      gd (tK T l0 = 3) <|
      bP (tW T l0 3) fun r5 =>
      gd (tK T r5 = 1) <|
      gd (vi l4 (tA T r5).length) <|
      bS ((tA T r5).getD l4.toNatClampNeg 0) fun r6 =>
      gd (tK T r6 = 9) <|
      gd (tK T r6 = 9) <|
      if (tV T r6 6) = 0 then
        gd (tK T r6 = 9) <|
        gd (tK T l1 = 7) <|
        if (xg (tB T l1) l4) = 1 then
          gd (tK T r6 = 9) <|
          h_2004_L7 n l0 l1 (l2 + (tV T r6 0)) (l3 + (tV T r6 0)) (l4 + 1) T
        else
          h_2004_L7 n l0 l1 (l2 + (tV T r6 0)) (l3 + 0) (l4 + 1) T
      else
        h_2004_L7 n l0 l1 l2 l3 (l4 + 1) T
def h_2004 (me : Nat) (x0 : Nat) (T : Tx) : Option Int32 :=
  h_2004_L7 100 me x0 0 0 0 T
theorem sh_2004 {F : Nat → Prop} {d : Nat} {G : ab_G} {T : Tx} {P : ab_Pq} {X : ab_Xq} (h2 : Rep2 F G T) {me : Nat} {x0 : Nat} {o : Int32} (ho : h_2004 me x0 T = some o) (h : P G (some (.int o))) : ab_Gam (d + 42) 2004 [.ref me, .ref x0] G P X := by
  have hF : SameF F G G := SameF_rfl
  unfold h_2004 at ho
  refine ab_enter (I := i2004) rfl (Nat.le_of_ble_eq_true rfl) (fun R hR => ?_)
  have h2004_L7 : ∀ (n : Nat) (l0 : Nat) (l1 : Nat) (l2 : Int32) (l3 : Int32) (l4 : Int32) (w5 : Option Value) (bc bs : Nat) (ho : h_2004_L7 n l0 l1 l2 l3 l4 T = some o), R 7 [some (.ref l0), some (.ref l1), some (.int l2), some (.int l3), some (.int l4), w5] [] G bc bs := by
    intro n
    induction n with
    | zero => intro l0 l1 l2 l3 l4 w5 bc bs ho; exact absurd ho (by intro hc; cases hc)
    | succ n7 ih7 =>
      intro l0 l1 l2 l3 l4 w5 bc bs ho
      rw [h_2004_L7] at ho
      refine us_iload hR dX1_pointsFor_7 rfl ?_
      refine us_aload_n hR dX1_pointsFor_9 rfl ?_
      have hg := gd_c ho
      rw [gd_e hg] at ho
      obtain ⟨r1, hr1⟩ := bP_ex ho
      replace ho := bP_go ho hr1
      refine uh_getR h2 hg (by decide) hr1 hR dX1_pointsFor_10 fR_2_10 rfl ?_
      have hg := gd_c ho
      rw [gd_e hg] at ho
      refine us_pri5 hR dX1_pointsFor_13 (by decide +kernel) rfl (H_lst0 h2 hg) rfl (Nat.le_of_ble_eq_true rfl) (Nat.zero_le _) (Nat.zero_le _) ?_
      refine hl_size h2 hg ?_
      refine us_icmp_ge hR dX1_pointsFor_16 77 (by decide) (fun c3 => ?_) (fun c3 => ?_)
      · rw [if_pos c3] at ho
        refine us_iload_n hR dX1_pointsFor_77 rfl ?_
        refine us_if_ne hR dX1_pointsFor_78 85 (by decide) (fun c4 => ?_) (fun c4 => ?_)
        · rw [if_neg c4] at ho
          refine us_bipushC hR dX1_pointsFor_85 (c := 100) (by decide) ?_
          refine us_iload_n hR dX1_pointsFor_87 rfl ?_
          refine us_imul hR dX1_pointsFor_88 ?_
          refine us_iload_n hR dX1_pointsFor_89 rfl ?_
          have hg := gd_c ho
          rw [gd_e hg] at ho
          refine us_idiv hR dX1_pointsFor_90 hg ?_
          refine us_iret hR dX1_pointsFor_91 rfl rfl ?_
          cases ho
          exact h
        · rw [if_pos c4] at ho
          refine us_iconstC hR dX1_pointsFor_81 (c := 0) (by decide) ?_
          refine us_goto hR dX1_pointsFor_82 91 (by decide) ?_
          refine us_iret hR dX1_pointsFor_91 rfl rfl ?_
          cases ho
          exact h
      · rw [if_neg c3] at ho
        refine us_aload_n hR dX1_pointsFor_19 rfl ?_
        have hg := gd_c ho
        rw [gd_e hg] at ho
        obtain ⟨r5, hr5⟩ := bP_ex ho
        replace ho := bP_go ho hr5
        refine uh_getR h2 hg (by decide) hr5 hR dX1_pointsFor_20 fR_2_10 rfl ?_
        refine us_iload hR dX1_pointsFor_23 rfl ?_
        have hg := gd_c ho
        rw [gd_e hg] at ho
        have hk := hg
        have hg := gd_c ho
        rw [gd_e hg] at ho
        refine us_pri6 hR dX1_pointsFor_25 (by decide +kernel) rfl (H_lst0 h2 hk) rfl (Nat.le_of_ble_eq_true rfl) (Nat.zero_le _) (Nat.zero_le _) ?_
        refine hl_get h2 hk hg ?_
        obtain ⟨r6, hr6⟩ : ∃ r, r = (tA T r5).getD l4.toNatClampNeg 0 := ⟨_, rfl⟩
        rw [← hr6]
        rw [← hr6, bS_eq] at ho
        have hg := gd_c ho
        rw [gd_e hg] at ho
        refine us_cast hR dX1_pointsFor_28 (by decide +kernel) (H_kind1 h2 hg (by decide)) (by decide) ?_
        refine us_astore hR dX1_pointsFor_31 (Nat.le_of_ble_eq_true rfl) ?_
        refine us_aload hR dX1_pointsFor_33 rfl ?_
        have hg := gd_c ho
        rw [gd_e hg] at ho
        refine uh_getI (ci := 8) (f := 6) h2 hg (by decide) hR dX1_pointsFor_35 fR_2_40 rfl ?_
        refine us_if_ne hR dX1_pointsFor_38 71 (by decide) (fun c7 => ?_) (fun c7 => ?_)
        · rw [if_neg c7] at ho
          refine us_iincC hR dX1_pointsFor_71 rfl (Nat.le_of_ble_eq_true rfl) (c := 1) (by decide) ?_
          refine us_goto hR dX1_pointsFor_74 7 (by decide) ?_
          exact ih7 l0 l1 l2 l3 (l4 + 1) _ _ _ ho
        · rw [if_pos c7] at ho
          refine us_iload_n hR dX1_pointsFor_41 rfl ?_
          refine us_aload hR dX1_pointsFor_42 rfl ?_
          have hg := gd_c ho
          rw [gd_e hg] at ho
          refine uh_getI (ci := 8) (f := 0) h2 hg (by decide) hR dX1_pointsFor_44 fR_2_44 rfl ?_
          refine us_iadd hR dX1_pointsFor_47 ?_
          refine us_istore_n hR dX1_pointsFor_48 (Nat.le_of_ble_eq_true rfl) ?_
          refine us_iload_n hR dX1_pointsFor_49 rfl ?_
          refine us_aload_n hR dX1_pointsFor_50 rfl ?_
          refine us_iload hR dX1_pointsFor_51 rfl ?_
          have hg := gd_c ho
          rw [gd_e hg] at ho
          refine us_callV hR dX1_pointsFor_53 (y := 6002) (by decide +kernel) (by decide) (J := i6002) rfl rfl rfl rfl (H_row6 h2 hg) rfl (Nat.le_of_ble_eq_true rfl) (Nat.zero_le _) (Nat.zero_le _) ?_
          refine hr_get h2 hg ?_
          refine us_iconstC hR dX1_pointsFor_56 (c := 1) (by decide) ?_
          refine us_icmp_ne hR dX1_pointsFor_57 68 (by decide) (fun c9 => ?_) (fun c9 => ?_)
          · rw [if_neg c9] at ho
            refine us_iconstC hR dX1_pointsFor_68 (c := 0) (by decide) ?_
            refine us_iadd hR dX1_pointsFor_69 ?_
            refine us_istore_n hR dX1_pointsFor_70 (Nat.le_of_ble_eq_true rfl) ?_
            refine us_iincC hR dX1_pointsFor_71 rfl (Nat.le_of_ble_eq_true rfl) (c := 1) (by decide) ?_
            refine us_goto hR dX1_pointsFor_74 7 (by decide) ?_
            exact ih7 l0 l1 (l2 + (tV T r6 0)) (l3 + 0) (l4 + 1) _ _ _ ho
          · rw [if_pos c9] at ho
            refine us_aload hR dX1_pointsFor_60 rfl ?_
            have hg := gd_c ho
            rw [gd_e hg] at ho
            refine uh_getI (ci := 8) (f := 0) h2 hg (by decide) hR dX1_pointsFor_62 fR_2_44 rfl ?_
            refine us_goto hR dX1_pointsFor_65 69 (by decide) ?_
            refine us_iadd hR dX1_pointsFor_69 ?_
            refine us_istore_n hR dX1_pointsFor_70 (Nat.le_of_ble_eq_true rfl) ?_
            refine us_iincC hR dX1_pointsFor_71 rfl (Nat.le_of_ble_eq_true rfl) (c := 1) (by decide) ?_
            refine us_goto hR dX1_pointsFor_74 7 (by decide) ?_
            exact ih7 l0 l1 (l2 + (tV T r6 0)) (l3 + (tV T r6 0)) (l4 + 1) _ _ _ ho
  refine us_iconstC hR dX1_pointsFor_0 (c := 0) (by decide) ?_
  refine us_istore_n hR dX1_pointsFor_1 (Nat.le_of_ble_eq_true rfl) ?_
  refine us_iconstC hR dX1_pointsFor_2 (c := 0) (by decide) ?_
  refine us_istore_n hR dX1_pointsFor_3 (Nat.le_of_ble_eq_true rfl) ?_
  refine us_iconstC hR dX1_pointsFor_4 (c := 0) (by decide) ?_
  refine us_istore hR dX1_pointsFor_5 (Nat.le_of_ble_eq_true rfl) ?_
  exact h2004_L7 _ me x0 0 0 0 _ _ _ ho
def h_1002 (me : Nat) (x0 : Int32) (T : Tx) : Option Int32 :=
  gd (tK T me = 2) <|
  if (tV T me 7) = 0 then
    gd (tK T me = 2) <|
    gd (tK T me = 2) <|
    bP (tW T me 1) fun r2 =>
    gd (tK T r2 = 3) <|
    gd (¬ (100 : Int32) = 0) <|
    some (((x0 * (100 - (if (10 * (if 0 < ((tV T me 3) - (tV T r2 2)) then ((tV T me 3) - (tV T r2 2)) else 0)) < 50 then (10 * (if 0 < ((tV T me 3) - (tV T r2 2)) then ((tV T me 3) - (tV T r2 2)) else 0)) else 50))) / 100))
  else
    some 0
theorem sh_1002 {F : Nat → Prop} {d : Nat} {G : ab_G} {T : Tx} {P : ab_Pq} {X : ab_Xq} (h2 : Rep2 F G T) {me : Nat} {x0 : Int32} {o : Int32} (ho : h_1002 me x0 T = some o) (h : P G (some (.int o))) : ab_Gam (d + 1) 1002 [.ref me, .int x0] G P X := by
  have hF : SameF F G G := SameF_rfl
  unfold h_1002 at ho
  refine ab_enter (I := i1002) rfl (Nat.le_of_ble_eq_true rfl) (fun R hR => ?_)
  refine us_aload_n hR dX0_markFor_0 rfl ?_
  have hg := gd_c ho
  rw [gd_e hg] at ho
  refine uh_getI (ci := 1) (f := 7) h2 hg (by decide) hR dX0_markFor_1 fR_1_51 rfl ?_
  refine us_if_eq hR dX0_markFor_4 9 (by decide) (fun c1 => ?_) (fun c1 => ?_)
  · rw [if_pos c1] at ho
    refine us_iconstC hR dX0_markFor_9 (c := 0) (by decide) ?_
    refine us_aload_n hR dX0_markFor_10 rfl ?_
    have hg := gd_c ho
    rw [gd_e hg] at ho
    refine uh_getI (ci := 1) (f := 3) h2 hg (by decide) hR dX0_markFor_11 fR_1_34 rfl ?_
    refine us_aload_n hR dX0_markFor_14 rfl ?_
    have hg := gd_c ho
    rw [gd_e hg] at ho
    obtain ⟨r2, hr2⟩ := bP_ex ho
    replace ho := bP_go ho hr2
    refine uh_getR h2 hg (by decide) hr2 hR dX0_markFor_15 fR_1_30 rfl ?_
    have hg := gd_c ho
    rw [gd_e hg] at ho
    refine uh_getI (ci := 2) (f := 2) h2 hg (by decide) hR dX0_markFor_18 fR_1_55 rfl ?_
    refine us_isub hR dX0_markFor_21 ?_
    refine us_math1 hR dX0_markFor_22 (by decide +kernel) (Nat.le_of_ble_eq_true rfl) ?_
    refine us_istore_n hR dX0_markFor_25 (Nat.le_of_ble_eq_true rfl) ?_
    refine us_bipushC hR dX0_markFor_26 (c := 50) (by decide) ?_
    refine us_bipushC hR dX0_markFor_28 (c := 10) (by decide) ?_
    refine us_iload_n hR dX0_markFor_30 rfl ?_
    refine us_imul hR dX0_markFor_31 ?_
    refine us_math2 hR dX0_markFor_32 (by decide +kernel) (Nat.le_of_ble_eq_true rfl) ?_
    refine us_istore_n hR dX0_markFor_35 (Nat.le_of_ble_eq_true rfl) ?_
    refine us_iload_n hR dX0_markFor_36 rfl ?_
    refine us_bipushC hR dX0_markFor_37 (c := 100) (by decide) ?_
    refine us_iload_n hR dX0_markFor_39 rfl ?_
    refine us_isub hR dX0_markFor_40 ?_
    refine us_imul hR dX0_markFor_41 ?_
    refine us_bipushC hR dX0_markFor_42 (c := 100) (by decide) ?_
    have hg := gd_c ho
    rw [gd_e hg] at ho
    refine us_idiv hR dX0_markFor_44 hg ?_
    refine us_iret hR dX0_markFor_45 rfl rfl ?_
    cases ho
    exact h
  · rw [if_neg c1] at ho
    refine us_iconstC hR dX0_markFor_7 (c := 0) (by decide) ?_
    refine us_iret hR dX0_markFor_8 rfl rfl ?_
    cases ho
    exact h
def h_1001 (me : Nat) (T : Tx) : Option Int32 :=
  gd (tK T me = 2) <|
  bP (tW T me 1) fun r1 =>
  gd (tK T me = 2) <|
  bP (tW T me 5) fun r2 =>
  gd (tK T r1 = 3) <|
  bP (h_2004 r1 r2 T) fun r3 =>
  gd (tK T me = 2) <|
  bP (h_1002 me r3 T) fun r4 =>
  some r4
theorem sh_1001 {F : Nat → Prop} {d : Nat} {G : ab_G} {T : Tx} {P : ab_Pq} {X : ab_Xq} (h2 : Rep2 F G T) {me : Nat} {o : Int32} (ho : h_1001 me T = some o) (h : P G (some (.int o))) : ab_Gam (d + 43) 1001 [.ref me] G P X := by
  have hF : SameF F G G := SameF_rfl
  unfold h_1001 at ho
  refine ab_enter (I := i1001) rfl (Nat.le_of_ble_eq_true rfl) (fun R hR => ?_)
  refine us_aload_n hR dX0_markNow_0 rfl ?_
  refine us_aload_n hR dX0_markNow_1 rfl ?_
  have hg := gd_c ho
  rw [gd_e hg] at ho
  obtain ⟨r1, hr1⟩ := bP_ex ho
  replace ho := bP_go ho hr1
  refine uh_getR h2 hg (by decide) hr1 hR dX0_markNow_2 fR_1_30 rfl ?_
  refine us_aload_n hR dX0_markNow_5 rfl ?_
  have hg := gd_c ho
  rw [gd_e hg] at ho
  obtain ⟨r2, hr2⟩ := bP_ex ho
  replace ho := bP_go ho hr2
  refine uh_getR h2 hg (by decide) hr2 hR dX0_markNow_6 fR_1_20 rfl ?_
  have hg := gd_c ho
  rw [gd_e hg] at ho
  refine us_callV hR dX0_markNow_9 (y := 2004) (by decide +kernel) (by decide) (J := i2004) rfl rfl rfl rfl (H_kind1 h2 hg (by decide)) rfl (Nat.le_of_ble_eq_true rfl) (Nat.zero_le _) (Nat.zero_le _) ?_
  obtain ⟨r3, hr3⟩ := bP_ex ho
  replace ho := bP_go ho hr3
  refine sh_2004 h2 hr3 ?_
  have hg := gd_c ho
  rw [gd_e hg] at ho
  refine us_callV hR dX0_markNow_12 (y := 1002) (by decide +kernel) (by decide) (J := i1002) rfl rfl rfl rfl (H_kind1 h2 hg (by decide)) rfl (Nat.le_of_ble_eq_true rfl) (Nat.zero_le _) (Nat.zero_le _) ?_
  obtain ⟨r4, hr4⟩ := bP_ex ho
  replace ho := bP_go ho hr4
  refine sh_1002 h2 hr4 ?_
  refine us_iret hR dX0_markNow_15 rfl rfl ?_
  cases ho
  exact h
def h_8001_J38 (l0 : Nat) (l1 : Nat) (T : Tx) : Option Int32 :=
  gd (tK T l0 = 9) <|
  if (tV T l0 3) < 2 then
    some 1
  else
    gd (tK T l1 = 8) <|
    bP (h_7006 l1 1 T) fun r2 =>
    gd (tK T l0 = 9) <|
    if r2 = (tV T l0 5) then
      some 1
    else
      some 0
def h_8001 (me : Nat) (x0 : Nat) (T : Tx) : Option Int32 :=
  gd (tK T x0 = 8) <|
  bP (h_7003 x0 T) fun r4 =>
  if r4 = 0 then
    gd (tK T x0 = 8) <|
    bP (h_7005 x0 T) fun r6 =>
    gd (tK T me = 9) <|
    if r6 = (tV T me 3) then
      gd (tK T me = 9) <|
      if (tV T me 3) < 1 then
        h_8001_J38 me x0 T
      else
        gd (tK T x0 = 8) <|
        bP (h_7006 x0 0 T) fun r9 =>
        gd (tK T me = 9) <|
        if r9 = (tV T me 4) then
          h_8001_J38 me x0 T
        else
          some 0
    else
      some 0
  else
    some 0
theorem sh_8001 {F : Nat → Prop} {d : Nat} {G : ab_G} {T : Tx} {P : ab_Pq} {X : ab_Xq} (h2 : Rep2 F G T) {me : Nat} {x0 : Nat} {o : Int32} (ho : h_8001 me x0 T = some o) (h : (o = 0 ∨ o = 1) → P G (some (.int o))) : ab_Gam (d + 3) 8001 [.ref me, .ref x0] G P X := by
  have hF : SameF F G G := SameF_rfl
  unfold h_8001 at ho
  refine ab_enter (I := i8001) rfl (Nat.le_of_ble_eq_true rfl) (fun R hR => ?_)
  have h8001_J38 : ∀ (l0 : Nat) (l1 : Nat)  (bc bs : Nat) (ho : h_8001_J38 l0 l1 T = some o), R 38 [some (.ref l0), some (.ref l1)] [] G bc bs := by
    intro l0 l1  bc bs ho
    unfold h_8001_J38 at ho
    refine us_aload_n hR dX7_isPassedBy_38 rfl ?_
    have hg := gd_c ho
    rw [gd_e hg] at ho
    refine uh_getI (ci := 8) (f := 3) h2 hg (by decide) hR dX7_isPassedBy_39 fR_8_21 rfl ?_
    refine us_iconstC hR dX7_isPassedBy_42 (c := 2) (by decide) ?_
    refine us_icmp_lt hR dX7_isPassedBy_43 58 (by decide) (fun c1 => ?_) (fun c1 => ?_)
    · rw [if_pos c1] at ho
      refine us_iconstC hR dX7_isPassedBy_58 (c := 1) (by decide) ?_
      refine us_goto hR dX7_isPassedBy_59 63 (by decide) ?_
      refine us_iret hR dX7_isPassedBy_63 rfl (nar01 (Or.inr rfl)) ?_
      cases ho
      exact h (Or.inr rfl) 
    · rw [if_neg c1] at ho
      refine us_aload_n hR dX7_isPassedBy_46 rfl ?_
      refine us_iconstC hR dX7_isPassedBy_47 (c := 1) (by decide) ?_
      have hg := gd_c ho
      rw [gd_e hg] at ho
      refine us_callV hR dX7_isPassedBy_48 (y := 7006) (by decide +kernel) (by decide) (J := i7006) rfl rfl rfl rfl (H_kind1 h2 hg (by decide)) rfl (Nat.le_of_ble_eq_true rfl) (Nat.zero_le _) (Nat.zero_le _) ?_
      obtain ⟨r2, hr2⟩ := bP_ex ho
      replace ho := bP_go ho hr2
      refine sh_7006 h2 hr2 ?_
      refine us_aload_n hR dX7_isPassedBy_51 rfl ?_
      have hg := gd_c ho
      rw [gd_e hg] at ho
      refine uh_getI (ci := 8) (f := 5) h2 hg (by decide) hR dX7_isPassedBy_52 fR_8_27 rfl ?_
      refine us_icmp_ne hR dX7_isPassedBy_55 62 (by decide) (fun c3 => ?_) (fun c3 => ?_)
      · rw [if_neg c3] at ho
        refine us_iconstC hR dX7_isPassedBy_62 (c := 0) (by decide) ?_
        refine us_iret hR dX7_isPassedBy_63 rfl (nar01 (Or.inl rfl)) ?_
        cases ho
        exact h (Or.inl rfl) 
      · rw [if_pos c3] at ho
        refine us_iconstC hR dX7_isPassedBy_58 (c := 1) (by decide) ?_
        refine us_goto hR dX7_isPassedBy_59 63 (by decide) ?_
        refine us_iret hR dX7_isPassedBy_63 rfl (nar01 (Or.inr rfl)) ?_
        cases ho
        exact h (Or.inr rfl) 
  refine us_aload_n hR dX7_isPassedBy_0 rfl ?_
  have hg := gd_c ho
  rw [gd_e hg] at ho
  refine us_callV hR dX7_isPassedBy_1 (y := 7003) (by decide +kernel) (by decide) (J := i7003) rfl rfl rfl rfl (H_kind1 h2 hg (by decide)) rfl (Nat.le_of_ble_eq_true rfl) (Nat.zero_le _) (Nat.zero_le _) ?_
  obtain ⟨r4, hr4⟩ := bP_ex ho
  replace ho := bP_go ho hr4
  refine sh_7003 h2 hr4 ?_
  refine us_if_ne hR dX7_isPassedBy_4 62 (by decide) (fun c5 => ?_) (fun c5 => ?_)
  · rw [if_neg c5] at ho
    refine us_iconstC hR dX7_isPassedBy_62 (c := 0) (by decide) ?_
    refine us_iret hR dX7_isPassedBy_63 rfl (nar01 (Or.inl rfl)) ?_
    cases ho
    exact h (Or.inl rfl) 
  · rw [if_pos c5] at ho
    refine us_aload_n hR dX7_isPassedBy_7 rfl ?_
    have hg := gd_c ho
    rw [gd_e hg] at ho
    refine us_callV hR dX7_isPassedBy_8 (y := 7005) (by decide +kernel) (by decide) (J := i7005) rfl rfl rfl rfl (H_kind1 h2 hg (by decide)) rfl (Nat.le_of_ble_eq_true rfl) (Nat.zero_le _) (Nat.zero_le _) ?_
    obtain ⟨r6, hr6⟩ := bP_ex ho
    replace ho := bP_go ho hr6
    refine sh_7005 h2 hr6 ?_
    refine us_aload_n hR dX7_isPassedBy_11 rfl ?_
    have hg := gd_c ho
    rw [gd_e hg] at ho
    refine uh_getI (ci := 8) (f := 3) h2 hg (by decide) hR dX7_isPassedBy_12 fR_8_21 rfl ?_
    refine us_icmp_ne hR dX7_isPassedBy_15 62 (by decide) (fun c7 => ?_) (fun c7 => ?_)
    · rw [if_neg c7] at ho
      refine us_iconstC hR dX7_isPassedBy_62 (c := 0) (by decide) ?_
      refine us_iret hR dX7_isPassedBy_63 rfl (nar01 (Or.inl rfl)) ?_
      cases ho
      exact h (Or.inl rfl) 
    · rw [if_pos c7] at ho
      refine us_aload_n hR dX7_isPassedBy_18 rfl ?_
      have hg := gd_c ho
      rw [gd_e hg] at ho
      refine uh_getI (ci := 8) (f := 3) h2 hg (by decide) hR dX7_isPassedBy_19 fR_8_21 rfl ?_
      refine us_iconstC hR dX7_isPassedBy_22 (c := 1) (by decide) ?_
      refine us_icmp_lt hR dX7_isPassedBy_23 38 (by decide) (fun c8 => ?_) (fun c8 => ?_)
      · rw [if_pos c8] at ho
        exact h8001_J38 me x0  _ _ ho
      · rw [if_neg c8] at ho
        refine us_aload_n hR dX7_isPassedBy_26 rfl ?_
        refine us_iconstC hR dX7_isPassedBy_27 (c := 0) (by decide) ?_
        have hg := gd_c ho
        rw [gd_e hg] at ho
        refine us_callV hR dX7_isPassedBy_28 (y := 7006) (by decide +kernel) (by decide) (J := i7006) rfl rfl rfl rfl (H_kind1 h2 hg (by decide)) rfl (Nat.le_of_ble_eq_true rfl) (Nat.zero_le _) (Nat.zero_le _) ?_
        obtain ⟨r9, hr9⟩ := bP_ex ho
        replace ho := bP_go ho hr9
        refine sh_7006 h2 hr9 ?_
        refine us_aload_n hR dX7_isPassedBy_31 rfl ?_
        have hg := gd_c ho
        rw [gd_e hg] at ho
        refine uh_getI (ci := 8) (f := 4) h2 hg (by decide) hR dX7_isPassedBy_32 fR_8_24 rfl ?_
        refine us_icmp_ne hR dX7_isPassedBy_35 62 (by decide) (fun c10 => ?_) (fun c10 => ?_)
        · rw [if_neg c10] at ho
          refine us_iconstC hR dX7_isPassedBy_62 (c := 0) (by decide) ?_
          refine us_iret hR dX7_isPassedBy_63 rfl (nar01 (Or.inl rfl)) ?_
          cases ho
          exact h (Or.inl rfl) 
        · rw [if_pos c10] at ho
          exact h8001_J38 me x0  _ _ ho
def h_4018_L54 : Nat → Nat → Int32 → Nat → Int32 → Int32 → Int32 → Int32 → Int32 → Tx → Option Int32
  | 0, _, _, _, _, _, _, _, _, _ => none
  | n + 1, l0, l1, l2, l3, l4, l5, l6, l7, T =>
    if l6 ≤ l7 then
      some 1
    else
      gd (tK T l0 = 5) <|
      bP (tW T l0 0) fun r2 =>
      gd (tK T r2 = 10) <|
      bP (tW T r2 0) fun r3 =>
      gd (tK T r3 = 7) <|
      gd (tK T l2 = 5) <|
      bP (tW T l2 0) fun r5 =>
      gd (tK T r5 = 10) <|
      bP (tW T r5 0) fun r6 =>
      gd (tK T r6 = 7) <|
      if (xg (tB T r3) (l4 + l7)) = (xg (tB T r6) (l5 + l7)) then
        h_4018_L54 n l0 l1 l2 l3 l4 l5 l6 (l7 + 1) T
      else
        some 0
def h_4018 (me : Nat) (x0 : Int32) (x1 : Nat) (x2 : Int32) (T : Tx) : Option Int32 :=
  gd (tK T me = 5) <|
  bP (tW T me 1) fun r9 =>
  gd (tK T r9 = 7) <|
  gd (tK T x1 = 5) <|
  bP (tW T x1 1) fun r11 =>
  gd (tK T r11 = 7) <|
  gd (tK T me = 5) <|
  bP (tW T me 2) fun r13 =>
  gd (tK T r13 = 7) <|
  gd (tK T x1 = 5) <|
  bP (tW T x1 2) fun r15 =>
  gd (tK T r15 = 7) <|
  if ((xg (tB T r15) x2) - (xg (tB T r11) x2)) = ((xg (tB T r13) x0) - (xg (tB T r9) x0)) then
    h_4018_L54 400 me x0 x1 x2 (xg (tB T r9) x0) (xg (tB T r11) x2) ((xg (tB T r13) x0) - (xg (tB T r9) x0)) 0 T
  else
    some 0
theorem sh_4018 {F : Nat → Prop} {d : Nat} {G : ab_G} {T : Tx} {P : ab_Pq} {X : ab_Xq} (h2 : Rep2 F G T) {me : Nat} {x0 : Int32} {x1 : Nat} {x2 : Int32} {o : Int32} (ho : h_4018 me x0 x1 x2 T = some o) (h : (o = 0 ∨ o = 1) → P G (some (.int o))) : ab_Gam (d + 2) 4018 [.ref me, .int x0, .ref x1, .int x2] G P X := by
  have hF : SameF F G G := SameF_rfl
  unfold h_4018 at ho
  refine ab_enter (I := i4018) rfl (Nat.le_of_ble_eq_true rfl) (fun R hR => ?_)
  have h4018_L54 : ∀ (n : Nat) (l0 : Nat) (l1 : Int32) (l2 : Nat) (l3 : Int32) (l4 : Int32) (l5 : Int32) (l6 : Int32) (l7 : Int32)  (bc bs : Nat) (ho : h_4018_L54 n l0 l1 l2 l3 l4 l5 l6 l7 T = some o), R 54 [some (.ref l0), some (.int l1), some (.ref l2), some (.int l3), some (.int l4), some (.int l5), some (.int l6), some (.int l7)] [] G bc bs := by
    intro n
    induction n with
    | zero => intro l0 l1 l2 l3 l4 l5 l6 l7  bc bs ho; exact absurd ho (by intro hc; cases hc)
    | succ n54 ih54 =>
      intro l0 l1 l2 l3 l4 l5 l6 l7  bc bs ho
      rw [h_4018_L54] at ho
      refine us_iload hR dX3_areAlike_54 rfl ?_
      refine us_iload hR dX3_areAlike_56 rfl ?_
      refine us_icmp_ge hR dX3_areAlike_58 102 (by decide) (fun c1 => ?_) (fun c1 => ?_)
      · rw [if_pos c1] at ho
        refine us_iconstC hR dX3_areAlike_102 (c := 1) (by decide) ?_
        refine us_iret hR dX3_areAlike_103 rfl (nar01 (Or.inr rfl)) ?_
        cases ho
        exact h (Or.inr rfl) 
      · rw [if_neg c1] at ho
        refine us_aload_n hR dX3_areAlike_61 rfl ?_
        have hg := gd_c ho
        rw [gd_e hg] at ho
        obtain ⟨r2, hr2⟩ := bP_ex ho
        replace ho := bP_go ho hr2
        refine uh_getR h2 hg (by decide) hr2 hR dX3_areAlike_62 fR_4_12 rfl ?_
        have hg := gd_c ho
        rw [gd_e hg] at ho
        obtain ⟨r3, hr3⟩ := bP_ex ho
        replace ho := bP_go ho hr3
        refine uh_getR h2 hg (by decide) hr3 hR dX3_areAlike_65 fR_4_87 rfl ?_
        refine us_iload hR dX3_areAlike_68 rfl ?_
        refine us_iload hR dX3_areAlike_70 rfl ?_
        refine us_iadd hR dX3_areAlike_72 ?_
        have hg := gd_c ho
        rw [gd_e hg] at ho
        refine us_callV hR dX3_areAlike_73 (y := 6002) (by decide +kernel) (by decide) (J := i6002) rfl rfl rfl rfl (H_row6 h2 hg) rfl (Nat.le_of_ble_eq_true rfl) (Nat.zero_le _) (Nat.zero_le _) ?_
        refine hr_get h2 hg ?_
        refine us_aload_n hR dX3_areAlike_76 rfl ?_
        have hg := gd_c ho
        rw [gd_e hg] at ho
        obtain ⟨r5, hr5⟩ := bP_ex ho
        replace ho := bP_go ho hr5
        refine uh_getR h2 hg (by decide) hr5 hR dX3_areAlike_77 fR_4_12 rfl ?_
        have hg := gd_c ho
        rw [gd_e hg] at ho
        obtain ⟨r6, hr6⟩ := bP_ex ho
        replace ho := bP_go ho hr6
        refine uh_getR h2 hg (by decide) hr6 hR dX3_areAlike_80 fR_4_87 rfl ?_
        refine us_iload hR dX3_areAlike_83 rfl ?_
        refine us_iload hR dX3_areAlike_85 rfl ?_
        refine us_iadd hR dX3_areAlike_87 ?_
        have hg := gd_c ho
        rw [gd_e hg] at ho
        refine us_callV hR dX3_areAlike_88 (y := 6002) (by decide +kernel) (by decide) (J := i6002) rfl rfl rfl rfl (H_row6 h2 hg) rfl (Nat.le_of_ble_eq_true rfl) (Nat.zero_le _) (Nat.zero_le _) ?_
        refine hr_get h2 hg ?_
        refine us_icmp_eq hR dX3_areAlike_91 96 (by decide) (fun c8 => ?_) (fun c8 => ?_)
        · rw [if_pos c8] at ho
          refine us_iincC hR dX3_areAlike_96 rfl (Nat.le_of_ble_eq_true rfl) (c := 1) (by decide) ?_
          refine us_goto hR dX3_areAlike_99 54 (by decide) ?_
          exact ih54 l0 l1 l2 l3 l4 l5 l6 (l7 + 1)  _ _ ho
        · rw [if_neg c8] at ho
          refine us_iconstC hR dX3_areAlike_94 (c := 0) (by decide) ?_
          refine us_iret hR dX3_areAlike_95 rfl (nar01 (Or.inl rfl)) ?_
          cases ho
          exact h (Or.inl rfl) 
  refine us_aload_n hR dX3_areAlike_0 rfl ?_
  have hg := gd_c ho
  rw [gd_e hg] at ho
  obtain ⟨r9, hr9⟩ := bP_ex ho
  replace ho := bP_go ho hr9
  refine uh_getR h2 hg (by decide) hr9 hR dX3_areAlike_1 fR_4_23 rfl ?_
  refine us_iload_n hR dX3_areAlike_4 rfl ?_
  have hg := gd_c ho
  rw [gd_e hg] at ho
  refine us_callV hR dX3_areAlike_5 (y := 6002) (by decide +kernel) (by decide) (J := i6002) rfl rfl rfl rfl (H_row6 h2 hg) rfl (Nat.le_of_ble_eq_true rfl) (Nat.zero_le _) (Nat.zero_le _) ?_
  refine hr_get h2 hg ?_
  refine us_istore hR dX3_areAlike_8 (Nat.le_of_ble_eq_true rfl) ?_
  refine us_aload_n hR dX3_areAlike_10 rfl ?_
  have hg := gd_c ho
  rw [gd_e hg] at ho
  obtain ⟨r11, hr11⟩ := bP_ex ho
  replace ho := bP_go ho hr11
  refine uh_getR h2 hg (by decide) hr11 hR dX3_areAlike_11 fR_4_23 rfl ?_
  refine us_iload_n hR dX3_areAlike_14 rfl ?_
  have hg := gd_c ho
  rw [gd_e hg] at ho
  refine us_callV hR dX3_areAlike_15 (y := 6002) (by decide +kernel) (by decide) (J := i6002) rfl rfl rfl rfl (H_row6 h2 hg) rfl (Nat.le_of_ble_eq_true rfl) (Nat.zero_le _) (Nat.zero_le _) ?_
  refine hr_get h2 hg ?_
  refine us_istore hR dX3_areAlike_18 (Nat.le_of_ble_eq_true rfl) ?_
  refine us_aload_n hR dX3_areAlike_20 rfl ?_
  have hg := gd_c ho
  rw [gd_e hg] at ho
  obtain ⟨r13, hr13⟩ := bP_ex ho
  replace ho := bP_go ho hr13
  refine uh_getR h2 hg (by decide) hr13 hR dX3_areAlike_21 fR_4_27 rfl ?_
  refine us_iload_n hR dX3_areAlike_24 rfl ?_
  have hg := gd_c ho
  rw [gd_e hg] at ho
  refine us_callV hR dX3_areAlike_25 (y := 6002) (by decide +kernel) (by decide) (J := i6002) rfl rfl rfl rfl (H_row6 h2 hg) rfl (Nat.le_of_ble_eq_true rfl) (Nat.zero_le _) (Nat.zero_le _) ?_
  refine hr_get h2 hg ?_
  refine us_iload hR dX3_areAlike_28 rfl ?_
  refine us_isub hR dX3_areAlike_30 ?_
  refine us_istore hR dX3_areAlike_31 (Nat.le_of_ble_eq_true rfl) ?_
  refine us_aload_n hR dX3_areAlike_33 rfl ?_
  have hg := gd_c ho
  rw [gd_e hg] at ho
  obtain ⟨r15, hr15⟩ := bP_ex ho
  replace ho := bP_go ho hr15
  refine uh_getR h2 hg (by decide) hr15 hR dX3_areAlike_34 fR_4_27 rfl ?_
  refine us_iload_n hR dX3_areAlike_37 rfl ?_
  have hg := gd_c ho
  rw [gd_e hg] at ho
  refine us_callV hR dX3_areAlike_38 (y := 6002) (by decide +kernel) (by decide) (J := i6002) rfl rfl rfl rfl (H_row6 h2 hg) rfl (Nat.le_of_ble_eq_true rfl) (Nat.zero_le _) (Nat.zero_le _) ?_
  refine hr_get h2 hg ?_
  refine us_iload hR dX3_areAlike_41 rfl ?_
  refine us_isub hR dX3_areAlike_43 ?_
  refine us_iload hR dX3_areAlike_44 rfl ?_
  refine us_icmp_eq hR dX3_areAlike_46 51 (by decide) (fun c17 => ?_) (fun c17 => ?_)
  · rw [if_pos c17] at ho
    refine us_iconstC hR dX3_areAlike_51 (c := 0) (by decide) ?_
    refine us_istore hR dX3_areAlike_52 (Nat.le_of_ble_eq_true rfl) ?_
    exact h4018_L54 _ me x0 x1 x2 (xg (tB T r9) x0) (xg (tB T r11) x2) ((xg (tB T r13) x0) - (xg (tB T r9) x0)) 0  _ _ ho
  · rw [if_neg c17] at ho
    refine us_iconstC hR dX3_areAlike_49 (c := 0) (by decide) ?_
    refine us_iret hR dX3_areAlike_50 rfl (nar01 (Or.inl rfl)) ?_
    cases ho
    exact h (Or.inl rfl) 
def h_4017_L3 : Nat → Nat → Int32 → Nat → Nat → Int32 → Tx → Option Int32
  | 0, _, _, _, _, _, _ => none
  | n + 1, l0, l1, l2, l3, l4, T =>
    gd (tK T l2 = 5) <|
    bP (h_4004 l2 T) fun r1 =>
    if r1 ≤ l4 then
      some (-1)
    else
      gd (tK T l3 = 7) <|
      if (xg (tB T l3) l4) = 0 then
        gd (tK T l0 = 5) <|
        bP (h_4018 l0 l1 l2 l4 T) fun r5 =>
        if r5 = 0 then
          h_4017_L3 n l0 l1 l2 l3 (l4 + 1) T
        else
          some l4
      else
        h_4017_L3 n l0 l1 l2 l3 (l4 + 1) T
def h_4017 (me : Nat) (x0 : Int32) (x1 : Nat) (x2 : Nat) (T : Tx) : Option Int32 :=
  h_4017_L3 200 me x0 x1 x2 0 T
theorem sh_4017 {F : Nat → Prop} {d : Nat} {G : ab_G} {T : Tx} {P : ab_Pq} {X : ab_Xq} (h2 : Rep2 F G T) {me : Nat} {x0 : Int32} {x1 : Nat} {x2 : Nat} {o : Int32} (ho : h_4017 me x0 x1 x2 T = some o) (h : P G (some (.int o))) : ab_Gam (d + 3) 4017 [.ref me, .int x0, .ref x1, .ref x2] G P X := by
  have hF : SameF F G G := SameF_rfl
  unfold h_4017 at ho
  refine ab_enter (I := i4017) rfl (Nat.le_of_ble_eq_true rfl) (fun R hR => ?_)
  have h4017_L3 : ∀ (n : Nat) (l0 : Nat) (l1 : Int32) (l2 : Nat) (l3 : Nat) (l4 : Int32)  (bc bs : Nat) (ho : h_4017_L3 n l0 l1 l2 l3 l4 T = some o), R 3 [some (.ref l0), some (.int l1), some (.ref l2), some (.ref l3), some (.int l4)] [] G bc bs := by
    intro n
    induction n with
    | zero => intro l0 l1 l2 l3 l4  bc bs ho; exact absurd ho (by intro hc; cases hc)
    | succ n3 ih3 =>
      intro l0 l1 l2 l3 l4  bc bs ho
      rw [h_4017_L3] at ho
      refine us_iload hR dX3_freePartLike_3 rfl ?_
      refine us_aload_n hR dX3_freePartLike_5 rfl ?_
      have hg := gd_c ho
      rw [gd_e hg] at ho
      refine us_callV hR dX3_freePartLike_6 (y := 4004) (by decide +kernel) (by decide) (J := i4004) rfl rfl rfl rfl (H_kind1 h2 hg (by decide)) rfl (Nat.le_of_ble_eq_true rfl) (Nat.zero_le _) (Nat.zero_le _) ?_
      obtain ⟨r1, hr1⟩ := bP_ex ho
      replace ho := bP_go ho hr1
      refine sh_4004 h2 hr1 ?_
      refine us_icmp_ge hR dX3_freePartLike_9 41 (by decide) (fun c2 => ?_) (fun c2 => ?_)
      · rw [if_pos c2] at ho
        refine us_iconstC hR dX3_freePartLike_41 (c := (-1)) (by decide) ?_
        refine us_iret hR dX3_freePartLike_42 rfl rfl ?_
        cases ho
        exact h
      · rw [if_neg c2] at ho
        refine us_aload_n hR dX3_freePartLike_12 rfl ?_
        refine us_iload hR dX3_freePartLike_13 rfl ?_
        have hg := gd_c ho
        rw [gd_e hg] at ho
        refine us_callV hR dX3_freePartLike_15 (y := 6002) (by decide +kernel) (by decide) (J := i6002) rfl rfl rfl rfl (H_row6 h2 hg) rfl (Nat.le_of_ble_eq_true rfl) (Nat.zero_le _) (Nat.zero_le _) ?_
        refine hr_get h2 hg ?_
        refine us_if_ne hR dX3_freePartLike_18 35 (by decide) (fun c4 => ?_) (fun c4 => ?_)
        · rw [if_neg c4] at ho
          refine us_iincC hR dX3_freePartLike_35 rfl (Nat.le_of_ble_eq_true rfl) (c := 1) (by decide) ?_
          refine us_goto hR dX3_freePartLike_38 3 (by decide) ?_
          exact ih3 l0 l1 l2 l3 (l4 + 1)  _ _ ho
        · rw [if_pos c4] at ho
          refine us_aload_n hR dX3_freePartLike_21 rfl ?_
          refine us_iload_n hR dX3_freePartLike_22 rfl ?_
          refine us_aload_n hR dX3_freePartLike_23 rfl ?_
          refine us_iload hR dX3_freePartLike_24 rfl ?_
          have hg := gd_c ho
          rw [gd_e hg] at ho
          refine us_callV hR dX3_freePartLike_26 (y := 4018) (by decide +kernel) (by decide) (J := i4018) rfl rfl rfl rfl (H_kind1 h2 hg (by decide)) rfl (Nat.le_of_ble_eq_true rfl) (Nat.zero_le _) (Nat.zero_le _) ?_
          obtain ⟨r5, hr5⟩ := bP_ex ho
          replace ho := bP_go ho hr5
          refine sh_4018 h2 hr5 (fun hb5 => ?_)
          refine us_if_eq hR dX3_freePartLike_29 35 (by decide) (fun c6 => ?_) (fun c6 => ?_)
          · rw [if_pos c6] at ho
            refine us_iincC hR dX3_freePartLike_35 rfl (Nat.le_of_ble_eq_true rfl) (c := 1) (by decide) ?_
            refine us_goto hR dX3_freePartLike_38 3 (by decide) ?_
            exact ih3 l0 l1 l2 l3 (l4 + 1)  _ _ ho
          · rw [if_neg c6] at ho
            refine us_iload hR dX3_freePartLike_32 rfl ?_
            refine us_iret hR dX3_freePartLike_34 rfl rfl ?_
            cases ho
            exact h
  refine us_iconstC hR dX3_freePartLike_0 (c := 0) (by decide) ?_
  refine us_istore hR dX3_freePartLike_1 (Nat.le_of_ble_eq_true rfl) ?_
  exact h4017_L3 _ me x0 x1 x2 0  _ _ ho
def h_4016_L21 : Nat → Nat → Nat → Nat → Int32 → Int32 → Nat → Nat → Tx → Option (Tx × Int32)
  | 0, _, _, _, _, _, _, _, _ => none
  | n + 1, l0, l1, l2, l3, l4, bc, bs, T =>
    gd (tK T l0 = 5) <|
    bP (h_4004 l0 T) fun r1 =>
    if r1 ≤ l4 then
      some (T, l3)
    else
      gd (tK T l0 = 5) <|
      bP (h_4017 l0 l4 l1 l2 T) fun r3 =>
      if r3 = (-1) then
        h_4016_L21 n l0 l1 l2 l3 (l4 + 1) bc bs T
      else
        gd (tK T l2 = 7) <|
        bS (tsB T l2 (xset (tB T l2) r3 1)) fun T5 =>
        h_4016_L21 n l0 l1 l2 (l3 + 1) (l4 + 1) bc bs T5
def h_4016 (me : Nat) (x0 : Nat) (T : Tx) : Option (Tx × Int32) :=
  bS (tNew T 107) fun T6 =>
  gd (tK T6 x0 = 5) <|
  bP (h_4004 x0 T6) fun r7 =>
  gd (tK T6 (tZ T) = 107) <|
  gd (0 ≤ Int32.toInt r7 ∧ Int32.toInt r7 < 60000) <|
  gd ((1 : Nat) ≤ 1 ∧ r7.toNatClampNeg ≤ 158) <|
  bS (tRow T6 (tZ T) (Int32.toNatClampNeg r7)) fun T8 =>
  gd (tK T8 (tZ T) = 7) <|
  bS (tsB T8 (tZ T) (List.replicate (tC T8 (tZ T)) 0)) fun T9 =>
  h_4016_L21 200 me x0 (tZ T) 0 0 (1 - 1) (158 - r7.toNatClampNeg) T9
theorem sh_4016 {F : Nat → Prop} {d : Nat} {G : ab_G} {T : Tx} {P : ab_Pq} {X : ab_Xq} (h2 : Rep2 F G T) {me : Nat} {x0 : Nat} {o : Tx × Int32} (ho : h_4016 me x0 T = some o) (h : ∀ G1, Rep2 F G1 o.1 → SameF F G G1 → P G1 (some (.int o.2))) : ab_Gam (d + 4) 4016 [.ref me, .ref x0] G P X := by
  have hF : SameF F G G := SameF_rfl
  unfold h_4016 at ho
  refine ab_enter (I := i4016) rfl (Nat.le_of_ble_eq_true rfl) (fun R hR => ?_)
  have h4016_L21 : ∀ (n : Nat) (l0 : Nat) (l1 : Nat) (l2 : Nat) (l3 : Int32) (l4 : Int32) (w5 : Option Value) (T : Tx) (Ga : ab_G) (bc bs : Nat) (h2 : Rep2 F Ga T) (hFa : SameF F G Ga) (ho : h_4016_L21 n l0 l1 l2 l3 l4 bc bs T = some o), R 21 [some (.ref l0), some (.ref l1), some (.ref l2), some (.int l3), some (.int l4), w5] [] Ga bc bs := by
    intro n
    induction n with
    | zero => intro l0 l1 l2 l3 l4 w5 T Ga bc bs h2 hFa ho; exact absurd ho (by intro hc; cases hc)
    | succ n21 ih21 =>
      intro l0 l1 l2 l3 l4 w5 T Ga bc bs h2 hFa ho
      rw [h_4016_L21] at ho
      refine us_iload hR dX3_partsInCommon_21 rfl ?_
      refine us_aload_n hR dX3_partsInCommon_23 rfl ?_
      have hg := gd_c ho
      rw [gd_e hg] at ho
      refine us_callV hR dX3_partsInCommon_24 (y := 4004) (by decide +kernel) (by decide) (J := i4004) rfl rfl rfl rfl (H_kind1 h2 hg (by decide)) rfl (Nat.le_of_ble_eq_true rfl) (Nat.zero_le _) (Nat.zero_le _) ?_
      obtain ⟨r1, hr1⟩ := bP_ex ho
      replace ho := bP_go ho hr1
      refine sh_4004 h2 hr1 ?_
      refine us_icmp_ge hR dX3_partsInCommon_27 62 (by decide) (fun c2 => ?_) (fun c2 => ?_)
      · rw [if_pos c2] at ho
        refine us_iload_n hR dX3_partsInCommon_62 rfl ?_
        refine us_iret hR dX3_partsInCommon_63 rfl rfl ?_
        cases ho
        exact h _ h2 hFa
      · rw [if_neg c2] at ho
        refine us_aload_n hR dX3_partsInCommon_30 rfl ?_
        refine us_iload hR dX3_partsInCommon_31 rfl ?_
        refine us_aload_n hR dX3_partsInCommon_33 rfl ?_
        refine us_aload_n hR dX3_partsInCommon_34 rfl ?_
        have hg := gd_c ho
        rw [gd_e hg] at ho
        refine us_callV hR dX3_partsInCommon_35 (y := 4017) (by decide +kernel) (by decide) (J := i4017) rfl rfl rfl rfl (H_kind1 h2 hg (by decide)) rfl (Nat.le_of_ble_eq_true rfl) (Nat.zero_le _) (Nat.zero_le _) ?_
        obtain ⟨r3, hr3⟩ := bP_ex ho
        replace ho := bP_go ho hr3
        refine sh_4017 h2 hr3 ?_
        refine us_istore hR dX3_partsInCommon_38 (Nat.le_of_ble_eq_true rfl) ?_
        refine us_iload hR dX3_partsInCommon_40 rfl ?_
        refine us_iconstC hR dX3_partsInCommon_42 (c := (-1)) (by decide) ?_
        refine us_icmp_eq hR dX3_partsInCommon_43 56 (by decide) (fun c4 => ?_) (fun c4 => ?_)
        · rw [if_pos c4] at ho
          refine us_iincC hR dX3_partsInCommon_56 rfl (Nat.le_of_ble_eq_true rfl) (c := 1) (by decide) ?_
          refine us_goto hR dX3_partsInCommon_59 21 (by decide) ?_
          exact ih21 l0 l1 l2 l3 (l4 + 1) _ T Ga _ _ h2 hFa ho
        · rw [if_neg c4] at ho
          refine us_aload_n hR dX3_partsInCommon_46 rfl ?_
          refine us_iload hR dX3_partsInCommon_47 rfl ?_
          refine us_iconstC hR dX3_partsInCommon_49 (c := 1) (by decide) ?_
          have hg := gd_c ho
          rw [gd_e hg] at ho
          refine us_callV hR dX3_partsInCommon_50 (y := 6003) (by decide +kernel) (by decide) (J := i6003) rfl rfl rfl rfl (H_row6 h2 hg) rfl (Nat.le_of_ble_eq_true rfl) (Nat.zero_le _) (Nat.zero_le _) ?_
          refine hr_set h2 hg (fun G5 T5 hs5 h25 hF5 => ?_)
          rw [← hs5, bS_eq] at ho
          have hF5 := hFa.tr hF5
          refine us_iincC hR dX3_partsInCommon_53 rfl (Nat.le_of_ble_eq_true rfl) (c := 1) (by decide) ?_
          refine us_iincC hR dX3_partsInCommon_56 rfl (Nat.le_of_ble_eq_true rfl) (c := 1) (by decide) ?_
          refine us_goto hR dX3_partsInCommon_59 21 (by decide) ?_
          exact ih21 l0 l1 l2 (l3 + 1) (l4 + 1) _ T5 G5 _ _ h25 hF5 ho
  change R _ _ _ _ 2 160
  refine uh_new (ci := 6) 107 h2 (by decide) hR dX3_partsInCommon_0 (by decide +kernel) (by decide) (Nat.le_of_ble_eq_true rfl) (Nat.le_of_ble_eq_true rfl) (fun G6 T6 hs6 h26 hF6 => ?_)
  rw [← hs6, bS_eq] at ho
  have hF6 := hF.tr hF6
  change R _ _ _ _ 1 158
  refine us_dup hR dX3_partsInCommon_3 rfl ?_
  refine us_aload_n hR dX3_partsInCommon_4 rfl ?_
  have hg := gd_c ho
  rw [gd_e hg] at ho
  refine us_callV hR dX3_partsInCommon_5 (y := 4004) (by decide +kernel) (by decide) (J := i4004) rfl rfl rfl rfl (H_kind1 h26 hg (by decide)) rfl (Nat.le_of_ble_eq_true rfl) (Nat.zero_le _) (Nat.zero_le _) ?_
  obtain ⟨r7, hr7⟩ := bP_ex ho
  replace ho := bP_go ho hr7
  refine sh_4004 h26 hr7 ?_
  have hg := gd_c ho
  rw [gd_e hg] at ho
  have hk := hg
  have hx := gd_c ho
  rw [gd_e hx] at ho
  have hg := hk
  have hb := gd_c ho
  rw [gd_e hb] at ho
  refine us_callI hR dX3_partsInCommon_8 (y := 6000) (by decide +kernel) (by decide) (J := i6000) rfl rfl rfl rfl (H_raw7 h26 hg) rfl (Nat.le_of_ble_eq_true rfl) hb.1 hb.2 ?_
  refine hr_init h26 hg hx (fun G8 T8 hs8 h28 hF8 => ?_)
  rw [← hs8, bS_eq] at ho
  have hF8 := hF6.tr hF8
  refine us_astore_n hR dX3_partsInCommon_11 (Nat.le_of_ble_eq_true rfl) ?_
  refine us_aload_n hR dX3_partsInCommon_12 rfl ?_
  have hg := gd_c ho
  rw [gd_e hg] at ho
  refine us_callV hR dX3_partsInCommon_13 (y := 6009) (by decide +kernel) (by decide) (J := i6009) rfl rfl rfl rfl (H_row6 h28 hg) rfl (Nat.le_of_ble_eq_true rfl) (Nat.zero_le _) (Nat.zero_le _) ?_
  refine hr_fillWithZeros h28 hg (fun G9 T9 hs9 h29 hF9 => ?_)
  rw [← hs9, bS_eq] at ho
  have hF9 := hF8.tr hF9
  refine us_iconstC hR dX3_partsInCommon_16 (c := 0) (by decide) ?_
  refine us_istore_n hR dX3_partsInCommon_17 (Nat.le_of_ble_eq_true rfl) ?_
  refine us_iconstC hR dX3_partsInCommon_18 (c := 0) (by decide) ?_
  refine us_istore hR dX3_partsInCommon_19 (Nat.le_of_ble_eq_true rfl) ?_
  exact h4016_L21 _ me x0 (tZ T) 0 0 _ T9 G9 _ _ h29 hF9 ho
