noncomputable section
def h_11016_L88 : Nat → Nat → Int32 → Int32 → Int32 → Int32 → Int32 → Int32 → Int32 → Nat → Nat → Int32 → Nat → Nat → Tx → Option (Tx × (Nat ⊕ Int32))
  | 0, _, _, _, _, _, _, _, _, _, _, _, _, _, _ => none
  | n + 1, l0, l1, l2, l3, l4, l5, l6, l7, l8, l9, l10, bc, bs, T =>
    gd (tK T l0 = 12) <|
    bP (tW T l0 10) fun r1 =>
    gd (tK T r1 = 1) <|
    if (nI (tA T r1).length) ≤ l10 then
      gd (tK T l8 = 3) <|
      bP (h_2002 l8 T) fun r4 =>
      some (T, .inr (r4 - 1))
    else
      gd (tK T l0 = 12) <|
      bP (tW T l0 10) fun r5 =>
      gd (tK T r5 = 1) <|
      gd (vi l10 (tA T r5).length) <|
      bS ((tA T r5).getD l10.toNatClampNeg 0) fun r6 =>
      gd (tK T r6 = 2) <|
      gd (tK T r6 = 2) <|
      bP (tW T r6 1) fun r7 =>
      gd (tK T r7 = 3) <|
      if (tV T r7 0) = l1 then
        gd (tK T l0 = 12) <|
        bOv (h_11044 l0 r6 l9 T) fun T9 =>
        h_11016_L88 n l0 l1 l2 l3 l4 l5 l6 l7 l8 l9 (l10 + 1) bc bs T9
      else
        h_11016_L88 n l0 l1 l2 l3 l4 l5 l6 l7 l8 l9 (l10 + 1) bc bs T
def h_11016 (me : Nat) (x0 : Int32) (x1 : Int32) (x2 : Int32) (x3 : Int32) (x4 : Int32) (x5 : Int32) (x6 : Int32) (T : Tx) : Option (Tx × (Nat ⊕ Int32)) :=
  gd (tK T me = 12) <|
  bXp T (h_11040 me x0 T) fun r10 =>
  if x1 < 1 then
    some (T, .inl 1)
  else
    if 10 < x1 then
      some (T, .inl 1)
    else
      if x4 < 0 then
        some (T, .inl 1)
      else
        if x4 ≤ 2 then
          gd (tK T r10 = 3) <|
          bP (h_2002 r10 T) fun r15 =>
          if r15 < 8 then
            bS (tNew T 9) fun T17 =>
            gd (tK T17 (tZ T) = 9) <|
            bOv (h_8000 (tZ T) x1 x2 x3 x4 x5 x6 T17) fun T18 =>
            gd (tK T18 r10 = 3) <|
            bOv (h_2001 r10 (tZ T) T18) fun T19 =>
            h_11016_L88 100 me x0 x1 x2 x3 x4 x5 x6 r10 (tZ T) 0 5 67 T19
          else
            some (T, .inl 3)
        else
          some (T, .inl 1)
theorem sh_11016 {F : Nat → Prop} {d : Nat} {G : ab_G} {T : Tx} {P : ab_Pq} {X : ab_Xq} (h2 : Rep2 F G T) {me : Nat} {x0 : Int32} {x1 : Int32} {x2 : Int32} {x3 : Int32} {x4 : Int32} {x5 : Int32} {x6 : Int32} {o : Tx × (Nat ⊕ Int32)} (ho : h_11016 me x0 x1 x2 x3 x4 x5 x6 T = some o) (h : ∀ G1 v, o.2 = .inr v → Rep2 F G1 o.1 → SameF F G G1 → P G1 (some (.int v))) (hX : ∀ G1 e, o.2 = .inl e → Rep2 F G1 o.1 → SameF F G G1 → X G1 (exn e)) : ab_Gam (d + 43) 11016 [.ref me, .int x0, .int x1, .int x2, .int x3, .int x4, .int x5, .int x6] G P X := by
  have hF : SameF F G G := SameF_rfl
  unfold h_11016 at ho
  refine ab_enter (I := i11016) rfl (Nat.le_of_ble_eq_true rfl) (fun R hR => ?_)
  have h11016_L88 : ∀ (n : Nat) (l0 : Nat) (l1 : Int32) (l2 : Int32) (l3 : Int32) (l4 : Int32) (l5 : Int32) (l6 : Int32) (l7 : Int32) (l8 : Nat) (l9 : Nat) (l10 : Int32) (w11 : Option Value) (T : Tx) (Ga : ab_G) (bc bs : Nat) (h2 : Rep2 F Ga T) (hFa : SameF F G Ga) (ho : h_11016_L88 n l0 l1 l2 l3 l4 l5 l6 l7 l8 l9 l10 bc bs T = some o), R 88 [some (.ref l0), some (.int l1), some (.int l2), some (.int l3), some (.int l4), some (.int l5), some (.int l6), some (.int l7), some (.ref l8), some (.ref l9), some (.int l10), w11] [] Ga bc bs := by
    intro n
    induction n with
    | zero => intro l0 l1 l2 l3 l4 l5 l6 l7 l8 l9 l10 w11 T Ga bc bs h2 hFa ho; exact absurd ho (by intro hc; cases hc)
    | succ n88 ih88 =>
      intro l0 l1 l2 l3 l4 l5 l6 l7 l8 l9 l10 w11 T Ga bc bs h2 hFa ho
      rw [h_11016_L88] at ho
      refine us_iload hR dX10_addTest_88 rfl ?_
      refine us_aload_n hR dX10_addTest_90 rfl ?_
      have hg := gd_c ho
      rw [gd_e hg] at ho
      obtain ⟨r1, hr1⟩ := bP_ex ho
      replace ho := bP_go ho hr1
      refine uh_getR h2 hg (by decide) hr1 hR dX10_addTest_91 fR_11_67 rfl ?_
      have hg := gd_c ho
      rw [gd_e hg] at ho
      refine us_pri5 hR dX10_addTest_94 (by decide +kernel) rfl (H_lst0 h2 hg) rfl (Nat.le_of_ble_eq_true rfl) (Nat.zero_le _) (Nat.zero_le _) ?_
      refine hl_size h2 hg ?_
      refine us_icmp_ge hR dX10_addTest_97 140 (by decide) (fun c3 => ?_) (fun c3 => ?_)
      · rw [if_pos c3] at ho
        refine us_aload hR dX10_addTest_140 rfl ?_
        have hg := gd_c ho
        rw [gd_e hg] at ho
        refine us_callV hR dX10_addTest_142 (y := 2002) (by decide +kernel) (by decide) (J := i2002) rfl rfl rfl rfl (H_kind1 h2 hg (by decide)) rfl (Nat.le_of_ble_eq_true rfl) (Nat.zero_le _) (Nat.zero_le _) ?_
        obtain ⟨r4, hr4⟩ := bP_ex ho
        replace ho := bP_go ho hr4
        refine sh_2002 h2 hr4 ?_
        refine us_iconstC hR dX10_addTest_145 (c := 1) (by decide) ?_
        refine us_isub hR dX10_addTest_146 ?_
        refine us_iret hR dX10_addTest_147 rfl rfl ?_
        cases ho
        exact h _ _ rfl h2 hFa
      · rw [if_neg c3] at ho
        refine us_aload_n hR dX10_addTest_100 rfl ?_
        have hg := gd_c ho
        rw [gd_e hg] at ho
        obtain ⟨r5, hr5⟩ := bP_ex ho
        replace ho := bP_go ho hr5
        refine uh_getR h2 hg (by decide) hr5 hR dX10_addTest_101 fR_11_67 rfl ?_
        refine us_iload hR dX10_addTest_104 rfl ?_
        have hg := gd_c ho
        rw [gd_e hg] at ho
        have hk := hg
        have hg := gd_c ho
        rw [gd_e hg] at ho
        refine us_pri6 hR dX10_addTest_106 (by decide +kernel) rfl (H_lst0 h2 hk) rfl (Nat.le_of_ble_eq_true rfl) (Nat.zero_le _) (Nat.zero_le _) ?_
        refine hl_get h2 hk hg ?_
        obtain ⟨r6, hr6⟩ : ∃ r, r = (tA T r5).getD l10.toNatClampNeg 0 := ⟨_, rfl⟩
        rw [← hr6]
        rw [← hr6, bS_eq] at ho
        have hg := gd_c ho
        rw [gd_e hg] at ho
        refine us_cast hR dX10_addTest_109 (by decide +kernel) (H_kind1 h2 hg (by decide)) (by decide) ?_
        refine us_astore hR dX10_addTest_112 (Nat.le_of_ble_eq_true rfl) ?_
        refine us_aload hR dX10_addTest_114 rfl ?_
        have hg := gd_c ho
        rw [gd_e hg] at ho
        obtain ⟨r7, hr7⟩ := bP_ex ho
        replace ho := bP_go ho hr7
        refine uh_getR h2 hg (by decide) hr7 hR dX10_addTest_116 fR_11_210 rfl ?_
        have hg := gd_c ho
        rw [gd_e hg] at ho
        refine uh_getI (ci := 2) (f := 0) h2 hg (by decide) hR dX10_addTest_119 fR_11_214 rfl ?_
        refine us_iload_n hR dX10_addTest_122 rfl ?_
        refine us_icmp_ne hR dX10_addTest_123 134 (by decide) (fun c8 => ?_) (fun c8 => ?_)
        · rw [if_neg c8] at ho
          refine us_iincC hR dX10_addTest_134 rfl (Nat.le_of_ble_eq_true rfl) (c := 1) (by decide) ?_
          refine us_goto hR dX10_addTest_137 88 (by decide) ?_
          exact ih88 l0 l1 l2 l3 l4 l5 l6 l7 l8 l9 (l10 + 1) _ T Ga _ _ h2 hFa ho
        · rw [if_pos c8] at ho
          refine us_aload_n hR dX10_addTest_126 rfl ?_
          refine us_aload hR dX10_addTest_127 rfl ?_
          refine us_aload hR dX10_addTest_129 rfl ?_
          have hg := gd_c ho
          rw [gd_e hg] at ho
          refine us_callV hR dX10_addTest_131 (y := 11044) (by decide +kernel) (by decide) (J := i11044) rfl rfl rfl rfl (H_kind1 h2 hg (by decide)) rfl (Nat.le_of_ble_eq_true rfl) (Nat.zero_le _) (Nat.zero_le _) ?_
          obtain ⟨T9, hs9⟩ := bOv_ex ho
          replace ho := bOv_go ho hs9
          refine sh_11044 h2 hs9 (fun G9 h29 hF9 => ?_)
          have hF9 := hFa.tr hF9
          refine us_iincC hR dX10_addTest_134 rfl (Nat.le_of_ble_eq_true rfl) (c := 1) (by decide) ?_
          refine us_goto hR dX10_addTest_137 88 (by decide) ?_
          exact ih88 l0 l1 l2 l3 l4 l5 l6 l7 l8 l9 (l10 + 1) _ T9 G9 _ _ h29 hF9 ho
  change R _ _ _ _ 8 120
  refine us_aload_n hR dX10_addTest_0 rfl ?_
  refine us_iload_n hR dX10_addTest_1 rfl ?_
  have hg := gd_c ho
  rw [gd_e hg] at ho
  refine us_callV hR dX10_addTest_2 (y := 11040) (by decide +kernel) (by decide) (J := i11040) rfl rfl rfl rfl (H_kind1 h2 hg (by decide)) rfl (Nat.le_of_ble_eq_true rfl) (Nat.le_of_ble_eq_true rfl) (Nat.le_of_ble_eq_true rfl) ?_
  obtain ⟨q10, hq10⟩ := bXp_ex ho
  rw [hq10] at ho
  refine sh_11040 h2 hq10 (fun r10 hr10 => ?_) (fun e10 hr10 => ?_)
  rotate_left
  · subst hr10
    cases ho
    exact ⟨rfl, hX _ _ rfl h2 hF⟩
  subst hr10
  rw [bXp_some] at ho
  change R _ _ _ _ 7 114
  refine us_astore hR dX10_addTest_5 (Nat.le_of_ble_eq_true rfl) ?_
  refine us_iload_n hR dX10_addTest_7 rfl ?_
  refine us_iconstC hR dX10_addTest_8 (c := 1) (by decide) ?_
  refine us_icmp_lt hR dX10_addTest_9 29 (by decide) (fun c11 => ?_) (fun c11 => ?_)
  · rw [if_pos c11] at ho
    change R _ _ _ _ 7 114
    refine us_throw (E := "java/lang/IllegalArgumentException") (t := "weight or count is out of range") hR dX10_addTest_29 (by decide +kernel) (by decide +kernel) dX10_addTest_32 rfl dX10_addTest_33 (by decide +kernel) dX10_addTest_35 dX10_addTest_38 (by omega) (Nat.le_of_ble_eq_true rfl) (Nat.le_of_ble_eq_true rfl) (Nat.le_of_ble_eq_true rfl) ?_
    cases ho
    exact hX _ _ rfl h2 hF
  · rw [if_neg c11] at ho
    change R _ _ _ _ 7 114
    refine us_iload_n hR dX10_addTest_12 rfl ?_
    refine us_bipushC hR dX10_addTest_13 (c := 10) (by decide) ?_
    refine us_icmp_gt hR dX10_addTest_15 29 (by decide) (fun c12 => ?_) (fun c12 => ?_)
    · rw [if_pos c12] at ho
      change R _ _ _ _ 7 114
      refine us_throw (E := "java/lang/IllegalArgumentException") (t := "weight or count is out of range") hR dX10_addTest_29 (by decide +kernel) (by decide +kernel) dX10_addTest_32 rfl dX10_addTest_33 (by decide +kernel) dX10_addTest_35 dX10_addTest_38 (by omega) (Nat.le_of_ble_eq_true rfl) (Nat.le_of_ble_eq_true rfl) (Nat.le_of_ble_eq_true rfl) ?_
      cases ho
      exact hX _ _ rfl h2 hF
    · rw [if_neg c12] at ho
      change R _ _ _ _ 7 114
      refine us_iload hR dX10_addTest_18 rfl ?_
      refine us_if_lt hR dX10_addTest_20 29 (by decide) (fun c13 => ?_) (fun c13 => ?_)
      · rw [if_pos c13] at ho
        change R _ _ _ _ 7 114
        refine us_throw (E := "java/lang/IllegalArgumentException") (t := "weight or count is out of range") hR dX10_addTest_29 (by decide +kernel) (by decide +kernel) dX10_addTest_32 rfl dX10_addTest_33 (by decide +kernel) dX10_addTest_35 dX10_addTest_38 (by omega) (Nat.le_of_ble_eq_true rfl) (Nat.le_of_ble_eq_true rfl) (Nat.le_of_ble_eq_true rfl) ?_
        cases ho
        exact hX _ _ rfl h2 hF
      · rw [if_neg c13] at ho
        change R _ _ _ _ 7 114
        refine us_iload hR dX10_addTest_23 rfl ?_
        refine us_iconstC hR dX10_addTest_25 (c := 2) (by decide) ?_
        refine us_icmp_le hR dX10_addTest_26 39 (by decide) (fun c14 => ?_) (fun c14 => ?_)
        · rw [if_pos c14] at ho
          change R _ _ _ _ 7 114
          refine us_aload hR dX10_addTest_39 rfl ?_
          have hg := gd_c ho
          rw [gd_e hg] at ho
          refine us_callV hR dX10_addTest_41 (y := 2002) (by decide +kernel) (by decide) (J := i2002) rfl rfl rfl rfl (H_kind1 h2 hg (by decide)) rfl (Nat.le_of_ble_eq_true rfl) (Nat.zero_le _) (Nat.zero_le _) ?_
          obtain ⟨r15, hr15⟩ := bP_ex ho
          replace ho := bP_go ho hr15
          refine sh_2002 h2 hr15 ?_
          refine us_bipushC hR dX10_addTest_44 (c := 8) (by decide) ?_
          refine us_icmp_lt hR dX10_addTest_46 59 (by decide) (fun c16 => ?_) (fun c16 => ?_)
          · rw [if_pos c16] at ho
            change R _ _ _ _ 7 114
            refine uh_new (ci := 8) 9 h2 (by decide) hR dX10_addTest_59 (by decide +kernel) (by decide) (Nat.le_of_ble_eq_true rfl) (Nat.le_of_ble_eq_true rfl) (fun G17 T17 hs17 h217 hF17 => ?_)
            rw [← hs17, bS_eq] at ho
            have hF17 := hF.tr hF17
            change R _ _ _ _ 6 107
            refine us_dup hR dX10_addTest_62 rfl ?_
            refine us_iload_n hR dX10_addTest_63 rfl ?_
            refine us_iload_n hR dX10_addTest_64 rfl ?_
            refine us_iload hR dX10_addTest_65 rfl ?_
            refine us_iload hR dX10_addTest_67 rfl ?_
            refine us_iload hR dX10_addTest_69 rfl ?_
            refine us_iload hR dX10_addTest_71 rfl ?_
            have hg := gd_c ho
            rw [gd_e hg] at ho
            refine us_callI hR dX10_addTest_73 (y := 8000) (by decide +kernel) (by decide) (J := i8000) rfl rfl rfl rfl (H_kind1 h217 hg (by decide)) rfl (Nat.le_of_ble_eq_true rfl) (Nat.zero_le _) (Nat.zero_le _) ?_
            obtain ⟨T18, hs18⟩ := bOv_ex ho
            replace ho := bOv_go ho hs18
            refine sh_8000 h217 hs18 (fun G18 h218 hF18 => ?_)
            have hF18 := hF17.tr hF18
            refine us_astore hR dX10_addTest_76 (Nat.le_of_ble_eq_true rfl) ?_
            refine us_aload hR dX10_addTest_78 rfl ?_
            refine us_aload hR dX10_addTest_80 rfl ?_
            have hg := gd_c ho
            rw [gd_e hg] at ho
            refine us_callV hR dX10_addTest_82 (y := 2001) (by decide +kernel) (by decide) (J := i2001) rfl rfl rfl rfl (H_kind1 h218 hg (by decide)) rfl (Nat.le_of_ble_eq_true rfl) (Nat.le_of_ble_eq_true rfl) (Nat.le_of_ble_eq_true rfl) ?_
            obtain ⟨T19, hs19⟩ := bOv_ex ho
            replace ho := bOv_go ho hs19
            refine sh_2001 h218 hs19 (fun G19 h219 hF19 => ?_)
            have hF19 := hF18.tr hF19
            change R _ _ _ _ 5 67
            refine us_iconstC hR dX10_addTest_85 (c := 0) (by decide) ?_
            refine us_istore hR dX10_addTest_86 (Nat.le_of_ble_eq_true rfl) ?_
            exact h11016_L88 _ me x0 x1 x2 x3 x4 x5 x6 r10 (tZ T) 0 _ T19 G19 _ _ h219 hF19 ho
          · rw [if_neg c16] at ho
            change R _ _ _ _ 7 114
            refine us_throw (E := "java/lang/IllegalStateException") (t := "there is no room for a test") hR dX10_addTest_49 (by decide +kernel) (by decide +kernel) dX10_addTest_52 rfl dX10_addTest_53 (by decide +kernel) dX10_addTest_55 dX10_addTest_58 (by omega) (Nat.le_of_ble_eq_true rfl) (Nat.le_of_ble_eq_true rfl) (Nat.le_of_ble_eq_true rfl) ?_
            cases ho
            exact hX _ _ rfl h2 hF
        · rw [if_neg c14] at ho
          change R _ _ _ _ 7 114
          refine us_throw (E := "java/lang/IllegalArgumentException") (t := "weight or count is out of range") hR dX10_addTest_29 (by decide +kernel) (by decide +kernel) dX10_addTest_32 rfl dX10_addTest_33 (by decide +kernel) dX10_addTest_35 dX10_addTest_38 (by omega) (Nat.le_of_ble_eq_true rfl) (Nat.le_of_ble_eq_true rfl) (Nat.le_of_ble_eq_true rfl) ?_
          cases ho
          exact hX _ _ rfl h2 hF
def h_11017_L47 : Nat → Nat → Int32 → Int32 → Nat → Nat → Int32 → Int32 → Nat → Nat → Tx → Option (Tx × (Nat ⊕ Int32))
  | 0, _, _, _, _, _, _, _, _, _, _ => none
  | n + 1, l0, l1, l2, l3, l4, l5, l6, bc, bs, T =>
    gd (tK T l0 = 12) <|
    bP (tW T l0 10) fun r1 =>
    gd (tK T r1 = 1) <|
    if (nI (tA T r1).length) ≤ l6 then
      some (T, .inr l5)
    else
      gd (tK T l0 = 12) <|
      bP (tW T l0 10) fun r4 =>
      gd (tK T r4 = 1) <|
      gd (vi l6 (tA T r4).length) <|
      bS ((tA T r4).getD l6.toNatClampNeg 0) fun r5 =>
      gd (tK T r5 = 2) <|
      gd (tK T r5 = 2) <|
      bP (h_1001 r5 T) fun r6 =>
      gd (tK T l0 = 12) <|
      bP (tW T l0 11) fun r7 =>
      gd (tK T r7 = 7) <|
      if r6 = (xg (tB T r7) l6) then
        h_11017_L47 n l0 l1 l2 l3 l4 (l5 + 0) (l6 + 1) bc bs T
      else
        h_11017_L47 n l0 l1 l2 l3 l4 (l5 + 1) (l6 + 1) bc bs T
def h_11017 (me : Nat) (x0 : Int32) (x1 : Int32) (T : Tx) : Option (Tx × (Nat ⊕ Int32)) :=
  gd (tK T me = 12) <|
  bXp T (h_11040 me x0 T) fun r10 =>
  bXp T (h_11041 r10 x1 T) fun r11 =>
  gd (tK T r11 = 9) <|
  if (tV T r11 6) = 0 then
    gd (tK T me = 12) <|
    bOv (h_11045 me T) fun T13 =>
    gd (tK T13 r11 = 9) <|
    bS (tsV T13 r11 6 1) fun T14 =>
    h_11017_L47 100 me x0 x1 r10 r11 0 0 2 28 T14
  else
    some (T, .inl 3)
theorem sh_11017 {F : Nat → Prop} {d : Nat} {G : ab_G} {T : Tx} {P : ab_Pq} {X : ab_Xq} (h2 : Rep2 F G T) {me : Nat} {x0 : Int32} {x1 : Int32} {o : Tx × (Nat ⊕ Int32)} (ho : h_11017 me x0 x1 T = some o) (h : ∀ G1 v, o.2 = .inr v → Rep2 F G1 o.1 → SameF F G G1 → P G1 (some (.int v))) (hX : ∀ G1 e, o.2 = .inl e → Rep2 F G1 o.1 → SameF F G G1 → X G1 (exn e)) : ab_Gam (d + 45) 11017 [.ref me, .int x0, .int x1] G P X := by
  have hF : SameF F G G := SameF_rfl
  unfold h_11017 at ho
  refine ab_enter (I := i11017) rfl (Nat.le_of_ble_eq_true rfl) (fun R hR => ?_)
  have h11017_L47 : ∀ (n : Nat) (l0 : Nat) (l1 : Int32) (l2 : Int32) (l3 : Nat) (l4 : Nat) (l5 : Int32) (l6 : Int32)  (T : Tx) (Ga : ab_G) (bc bs : Nat) (h2 : Rep2 F Ga T) (hFa : SameF F G Ga) (ho : h_11017_L47 n l0 l1 l2 l3 l4 l5 l6 bc bs T = some o), R 47 [some (.ref l0), some (.int l1), some (.int l2), some (.ref l3), some (.ref l4), some (.int l5), some (.int l6)] [] Ga bc bs := by
    intro n
    induction n with
    | zero => intro l0 l1 l2 l3 l4 l5 l6  T Ga bc bs h2 hFa ho; exact absurd ho (by intro hc; cases hc)
    | succ n47 ih47 =>
      intro l0 l1 l2 l3 l4 l5 l6  T Ga bc bs h2 hFa ho
      rw [h_11017_L47] at ho
      refine us_iload hR dX10_withdraw_47 rfl ?_
      refine us_aload_n hR dX10_withdraw_49 rfl ?_
      have hg := gd_c ho
      rw [gd_e hg] at ho
      obtain ⟨r1, hr1⟩ := bP_ex ho
      replace ho := bP_go ho hr1
      refine uh_getR h2 hg (by decide) hr1 hR dX10_withdraw_50 fR_11_67 rfl ?_
      have hg := gd_c ho
      rw [gd_e hg] at ho
      refine us_pri5 hR dX10_withdraw_53 (by decide +kernel) rfl (H_lst0 h2 hg) rfl (Nat.le_of_ble_eq_true rfl) (Nat.zero_le _) (Nat.zero_le _) ?_
      refine hl_size h2 hg ?_
      refine us_icmp_ge hR dX10_withdraw_56 102 (by decide) (fun c3 => ?_) (fun c3 => ?_)
      · rw [if_pos c3] at ho
        refine us_iload hR dX10_withdraw_102 rfl ?_
        refine us_iret hR dX10_withdraw_104 rfl rfl ?_
        cases ho
        exact h _ _ rfl h2 hFa
      · rw [if_neg c3] at ho
        refine us_iload hR dX10_withdraw_59 rfl ?_
        refine us_aload_n hR dX10_withdraw_61 rfl ?_
        have hg := gd_c ho
        rw [gd_e hg] at ho
        obtain ⟨r4, hr4⟩ := bP_ex ho
        replace ho := bP_go ho hr4
        refine uh_getR h2 hg (by decide) hr4 hR dX10_withdraw_62 fR_11_67 rfl ?_
        refine us_iload hR dX10_withdraw_65 rfl ?_
        have hg := gd_c ho
        rw [gd_e hg] at ho
        have hk := hg
        have hg := gd_c ho
        rw [gd_e hg] at ho
        refine us_pri6 hR dX10_withdraw_67 (by decide +kernel) rfl (H_lst0 h2 hk) rfl (Nat.le_of_ble_eq_true rfl) (Nat.zero_le _) (Nat.zero_le _) ?_
        refine hl_get h2 hk hg ?_
        obtain ⟨r5, hr5⟩ : ∃ r, r = (tA T r4).getD l6.toNatClampNeg 0 := ⟨_, rfl⟩
        rw [← hr5]
        rw [← hr5, bS_eq] at ho
        have hg := gd_c ho
        rw [gd_e hg] at ho
        refine us_cast hR dX10_withdraw_70 (by decide +kernel) (H_kind1 h2 hg (by decide)) (by decide) ?_
        have hg := gd_c ho
        rw [gd_e hg] at ho
        refine us_callV hR dX10_withdraw_73 (y := 1001) (by decide +kernel) (by decide) (J := i1001) rfl rfl rfl rfl (H_kind1 h2 hg (by decide)) rfl (Nat.le_of_ble_eq_true rfl) (Nat.zero_le _) (Nat.zero_le _) ?_
        obtain ⟨r6, hr6⟩ := bP_ex ho
        replace ho := bP_go ho hr6
        refine sh_1001 h2 hr6 ?_
        refine us_aload_n hR dX10_withdraw_76 rfl ?_
        have hg := gd_c ho
        rw [gd_e hg] at ho
        obtain ⟨r7, hr7⟩ := bP_ex ho
        replace ho := bP_go ho hr7
        refine uh_getR h2 hg (by decide) hr7 hR dX10_withdraw_77 fR_11_70 rfl ?_
        refine us_iload hR dX10_withdraw_80 rfl ?_
        have hg := gd_c ho
        rw [gd_e hg] at ho
        refine us_callV hR dX10_withdraw_82 (y := 6002) (by decide +kernel) (by decide) (J := i6002) rfl rfl rfl rfl (H_row6 h2 hg) rfl (Nat.le_of_ble_eq_true rfl) (Nat.zero_le _) (Nat.zero_le _) ?_
        refine hr_get h2 hg ?_
        refine us_icmp_ne hR dX10_withdraw_85 92 (by decide) (fun c9 => ?_) (fun c9 => ?_)
        · rw [if_neg c9] at ho
          refine us_iconstC hR dX10_withdraw_92 (c := 1) (by decide) ?_
          refine us_iadd hR dX10_withdraw_93 ?_
          refine us_istore hR dX10_withdraw_94 (Nat.le_of_ble_eq_true rfl) ?_
          refine us_iincC hR dX10_withdraw_96 rfl (Nat.le_of_ble_eq_true rfl) (c := 1) (by decide) ?_
          refine us_goto hR dX10_withdraw_99 47 (by decide) ?_
          exact ih47 l0 l1 l2 l3 l4 (l5 + 1) (l6 + 1)  T Ga _ _ h2 hFa ho
        · rw [if_pos c9] at ho
          refine us_iconstC hR dX10_withdraw_88 (c := 0) (by decide) ?_
          refine us_goto hR dX10_withdraw_89 93 (by decide) ?_
          refine us_iadd hR dX10_withdraw_93 ?_
          refine us_istore hR dX10_withdraw_94 (Nat.le_of_ble_eq_true rfl) ?_
          refine us_iincC hR dX10_withdraw_96 rfl (Nat.le_of_ble_eq_true rfl) (c := 1) (by decide) ?_
          refine us_goto hR dX10_withdraw_99 47 (by decide) ?_
          exact ih47 l0 l1 l2 l3 l4 (l5 + 0) (l6 + 1)  T Ga _ _ h2 hFa ho
  change R _ _ _ _ 4 40
  refine us_aload_n hR dX10_withdraw_0 rfl ?_
  refine us_iload_n hR dX10_withdraw_1 rfl ?_
  have hg := gd_c ho
  rw [gd_e hg] at ho
  refine us_callV hR dX10_withdraw_2 (y := 11040) (by decide +kernel) (by decide) (J := i11040) rfl rfl rfl rfl (H_kind1 h2 hg (by decide)) rfl (Nat.le_of_ble_eq_true rfl) (Nat.le_of_ble_eq_true rfl) (Nat.le_of_ble_eq_true rfl) ?_
  obtain ⟨q10, hq10⟩ := bXp_ex ho
  rw [hq10] at ho
  refine sh_11040 h2 hq10 (fun r10 hr10 => ?_) (fun e10 hr10 => ?_)
  rotate_left
  · subst hr10
    cases ho
    exact ⟨rfl, hX _ _ rfl h2 hF⟩
  subst hr10
  rw [bXp_some] at ho
  change R _ _ _ _ 3 34
  refine us_astore_n hR dX10_withdraw_5 (Nat.le_of_ble_eq_true rfl) ?_
  refine us_aload_n hR dX10_withdraw_6 rfl ?_
  refine us_iload_n hR dX10_withdraw_7 rfl ?_
  refine us_callS hR dX10_withdraw_8 (y := 11041) (by decide +kernel) (by decide) (J := i11041) rfl rfl rfl rfl (rest := _) (Nat.le_of_ble_eq_true rfl) (Nat.le_of_ble_eq_true rfl) (Nat.le_of_ble_eq_true rfl) ?_
  obtain ⟨q11, hq11⟩ := bXp_ex ho
  rw [hq11] at ho
  refine sh_11041 h2 hq11 (fun r11 hr11 => ?_) (fun e11 hr11 => ?_)
  rotate_left
  · subst hr11
    cases ho
    exact ⟨rfl, hX _ _ rfl h2 hF⟩
  subst hr11
  rw [bXp_some] at ho
  change R _ _ _ _ 2 28
  refine us_astore hR dX10_withdraw_11 (Nat.le_of_ble_eq_true rfl) ?_
  refine us_aload hR dX10_withdraw_13 rfl ?_
  have hg := gd_c ho
  rw [gd_e hg] at ho
  refine uh_getI (ci := 8) (f := 6) h2 hg (by decide) hR dX10_withdraw_15 fR_11_225 rfl ?_
  refine us_if_eq hR dX10_withdraw_18 31 (by decide) (fun c12 => ?_) (fun c12 => ?_)
  · rw [if_pos c12] at ho
    change R _ _ _ _ 2 28
    refine us_aload_n hR dX10_withdraw_31 rfl ?_
    have hg := gd_c ho
    rw [gd_e hg] at ho
    refine us_callV hR dX10_withdraw_32 (y := 11045) (by decide +kernel) (by decide) (J := i11045) rfl rfl rfl rfl (H_kind1 h2 hg (by decide)) rfl (Nat.le_of_ble_eq_true rfl) (Nat.zero_le _) (Nat.zero_le _) ?_
    obtain ⟨T13, hs13⟩ := bOv_ex ho
    replace ho := bOv_go ho hs13
    refine sh_11045 h2 hs13 (fun G13 h213 hF13 => ?_)
    have hF13 := hF.tr hF13
    refine us_aload hR dX10_withdraw_35 rfl ?_
    refine us_iconstC hR dX10_withdraw_37 (c := 1) (by decide) ?_
    have hg := gd_c ho
    rw [gd_e hg] at ho
    refine uh_putI h213 hg (by decide) hR dX10_withdraw_38 fR_11_225 (Or.inl rfl) rfl rfl (fun G14 T14 hs14 h214 hF14 => ?_)
    rw [← hs14, bS_eq] at ho
    have hF14 := hF13.tr hF14
    refine us_iconstC hR dX10_withdraw_41 (c := 0) (by decide) ?_
    refine us_istore hR dX10_withdraw_42 (Nat.le_of_ble_eq_true rfl) ?_
    refine us_iconstC hR dX10_withdraw_44 (c := 0) (by decide) ?_
    refine us_istore hR dX10_withdraw_45 (Nat.le_of_ble_eq_true rfl) ?_
    exact h11017_L47 _ me x0 x1 r10 r11 0 0  T14 G14 _ _ h214 hF14 ho
  · rw [if_neg c12] at ho
    change R _ _ _ _ 2 28
    refine us_throw (E := "java/lang/IllegalStateException") (t := "the test was withdrawn") hR dX10_withdraw_21 (by decide +kernel) (by decide +kernel) dX10_withdraw_24 rfl dX10_withdraw_25 (by decide +kernel) dX10_withdraw_27 dX10_withdraw_30 (by omega) (Nat.le_of_ble_eq_true rfl) (Nat.le_of_ble_eq_true rfl) (Nat.le_of_ble_eq_true rfl) ?_
    cases ho
    exact hX _ _ rfl h2 hF
def h_11018 (me : Nat) (x0 : Int32) (T : Tx) : Option (Tx × (Nat ⊕ Int32)) :=
  if x0 < 1 then
    some (T, .inl 1)
  else
    if x0 ≤ 100 then
      gd (tK T me = 12) <|
      if ((tV T me 13) + x0) ≤ 1000 then
        gd (tK T me = 12) <|
        gd (tK T me = 12) <|
        bS (tsV T me 13 ((tV T me 13) + x0)) fun T4 =>
        gd (tK T4 me = 12) <|
        some (T4, .inr (tV T4 me 13))
      else
        some (T, .inl 3)
    else
      some (T, .inl 1)
theorem sh_11018 {F : Nat → Prop} {d : Nat} {G : ab_G} {T : Tx} {P : ab_Pq} {X : ab_Xq} (h2 : Rep2 F G T) {me : Nat} {x0 : Int32} {o : Tx × (Nat ⊕ Int32)} (ho : h_11018 me x0 T = some o) (h : ∀ G1 v, o.2 = .inr v → Rep2 F G1 o.1 → SameF F G G1 → P G1 (some (.int v))) (hX : ∀ G1 e, o.2 = .inl e → Rep2 F G1 o.1 → SameF F G G1 → X G1 (exn e)) : ab_Gam (d + 10) 11018 [.ref me, .int x0] G P X := by
  have hF : SameF F G G := SameF_rfl
  unfold h_11018 at ho
  refine ab_enter (I := i11018) rfl (Nat.le_of_ble_eq_true rfl) (fun R hR => ?_)
  change R _ _ _ _ 2 20
  refine us_iload_n hR dX10_pass_0 rfl ?_
  refine us_iconstC hR dX10_pass_1 (c := 1) (by decide) ?_
  refine us_icmp_lt hR dX10_pass_2 11 (by decide) (fun c1 => ?_) (fun c1 => ?_)
  · rw [if_pos c1] at ho
    change R _ _ _ _ 2 20
    refine us_throw (E := "java/lang/IllegalArgumentException") (t := "days are out of range") hR dX10_pass_11 (by decide +kernel) (by decide +kernel) dX10_pass_14 rfl dX10_pass_15 (by decide +kernel) dX10_pass_17 dX10_pass_20 (by omega) (Nat.le_of_ble_eq_true rfl) (Nat.le_of_ble_eq_true rfl) (Nat.le_of_ble_eq_true rfl) ?_
    cases ho
    exact hX _ _ rfl h2 hF
  · rw [if_neg c1] at ho
    change R _ _ _ _ 2 20
    refine us_iload_n hR dX10_pass_5 rfl ?_
    refine us_bipushC hR dX10_pass_6 (c := 100) (by decide) ?_
    refine us_icmp_le hR dX10_pass_8 21 (by decide) (fun c2 => ?_) (fun c2 => ?_)
    · rw [if_pos c2] at ho
      change R _ _ _ _ 2 20
      refine us_aload_n hR dX10_pass_21 rfl ?_
      have hg := gd_c ho
      rw [gd_e hg] at ho
      refine uh_getI (ci := 11) (f := 13) h2 hg (by decide) hR dX10_pass_22 fR_11_167 rfl ?_
      refine us_iload_n hR dX10_pass_25 rfl ?_
      refine us_iadd hR dX10_pass_26 ?_
      refine us_sipushC hR dX10_pass_27 (c := 1000) (by decide) ?_
      refine us_icmp_le hR dX10_pass_30 43 (by decide) (fun c3 => ?_) (fun c3 => ?_)
      · rw [if_pos c3] at ho
        change R _ _ _ _ 2 20
        refine us_aload_n hR dX10_pass_43 rfl ?_
        refine us_dup hR dX10_pass_44 rfl ?_
        have hg := gd_c ho
        rw [gd_e hg] at ho
        refine uh_getI (ci := 11) (f := 13) h2 hg (by decide) hR dX10_pass_45 fR_11_167 rfl ?_
        refine us_iload_n hR dX10_pass_48 rfl ?_
        refine us_iadd hR dX10_pass_49 ?_
        have hg := gd_c ho
        rw [gd_e hg] at ho
        refine uh_putI h2 hg (by decide) hR dX10_pass_50 fR_11_167 (Or.inl rfl) rfl rfl (fun G4 T4 hs4 h24 hF4 => ?_)
        rw [← hs4, bS_eq] at ho
        have hF4 := hF.tr hF4
        refine us_aload_n hR dX10_pass_53 rfl ?_
        have hg := gd_c ho
        rw [gd_e hg] at ho
        refine uh_getI (ci := 11) (f := 13) h24 hg (by decide) hR dX10_pass_54 fR_11_167 rfl ?_
        refine us_iret hR dX10_pass_57 rfl rfl ?_
        cases ho
        exact h _ _ rfl h24 hF4
      · rw [if_neg c3] at ho
        change R _ _ _ _ 2 20
        refine us_throw (E := "java/lang/IllegalStateException") (t := "there is no such day") hR dX10_pass_33 (by decide +kernel) (by decide +kernel) dX10_pass_36 rfl dX10_pass_37 (by decide +kernel) dX10_pass_39 dX10_pass_42 (by omega) (Nat.le_of_ble_eq_true rfl) (Nat.le_of_ble_eq_true rfl) (Nat.le_of_ble_eq_true rfl) ?_
        cases ho
        exact hX _ _ rfl h2 hF
    · rw [if_neg c2] at ho
      change R _ _ _ _ 2 20
      refine us_throw (E := "java/lang/IllegalArgumentException") (t := "days are out of range") hR dX10_pass_11 (by decide +kernel) (by decide +kernel) dX10_pass_14 rfl dX10_pass_15 (by decide +kernel) dX10_pass_17 dX10_pass_20 (by omega) (Nat.le_of_ble_eq_true rfl) (Nat.le_of_ble_eq_true rfl) (Nat.le_of_ble_eq_true rfl) ?_
      cases ho
      exact hX _ _ rfl h2 hF
def h_11019 (me : Nat) (T : Tx) : Option Int32 :=
  gd (tK T me = 12) <|
  some ((tV T me 13))
theorem sh_11019 {F : Nat → Prop} {d : Nat} {G : ab_G} {T : Tx} {P : ab_Pq} {X : ab_Xq} (h2 : Rep2 F G T) {me : Nat} {o : Int32} (ho : h_11019 me T = some o) (h : P G (some (.int o))) : ab_Gam (d + 1) 11019 [.ref me] G P X := by
  have hF : SameF F G G := SameF_rfl
  unfold h_11019 at ho
  refine ab_enter (I := i11019) rfl (Nat.le_of_ble_eq_true rfl) (fun R hR => ?_)
  refine us_aload_n hR dX10_today_0 rfl ?_
  have hg := gd_c ho
  rw [gd_e hg] at ho
  refine uh_getI (ci := 11) (f := 13) h2 hg (by decide) hR dX10_today_1 fR_11_167 rfl ?_
  refine us_iret hR dX10_today_4 rfl rfl ?_
  cases ho
  exact h
def h_11020_L133 : Nat → Nat → Int32 → Int32 → Nat → Nat → Int32 → Nat → Nat → Tx → Option (Tx × (Nat ⊕ Int32))
  | 0, _, _, _, _, _, _, _, _, _ => none
  | n + 1, l0, l1, l2, l3, l4, l5, bc, bs, T =>
    gd (tK T l3 = 3) <|
    bP (h_2002 l3 T) fun r1 =>
    if r1 ≤ l5 then
      gd (tK T l0 = 12) <|
      bP (tW T l0 10) fun r3 =>
      gd (tK T r3 = 1) <|
      gd ((tA T r3).length ≤ 32 ∧ tK T l4 ≠ 0) <|
      gd ((1 : Nat) ≤ bc ∧ 40 ≤ bs) <|
      bS (tAdd T r3 l4) fun T4 =>
      gd (tK T4 l0 = 12) <|
      bP (tW T4 l0 10) fun r5 =>
      gd (tK T4 r5 = 1) <|
      some (T4, .inr ((nI (tA T4 r5).length) - 1))
    else
      gd ((1 : Nat) ≤ bc ∧ 6 ≤ bs) <|
      bXp T (h_11041 l3 l5 T) fun r7 =>
      gd (tK T l0 = 12) <|
      bOv (h_11044 l0 l4 r7 T) fun T8 =>
      h_11020_L133 n l0 l1 l2 l3 l4 (l5 + 1) (bc - 1) (bs - 6) T8
def h_11020_L67 : Nat → Nat → Int32 → Int32 → Nat → Nat → Int32 → Nat → Nat → Tx → Option (Tx × (Nat ⊕ Int32))
  | 0, _, _, _, _, _, _, _, _, _ => none
  | n + 1, l0, l1, l2, l3, l4, l5, bc, bs, T =>
    gd (tK T l0 = 12) <|
    bP (tW T l0 10) fun r9 =>
    gd (tK T r9 = 1) <|
    if (nI (tA T r9).length) ≤ l5 then
      gd (tK T l4 = 2) <|
      bP (tW T l4 6) fun r12 =>
      gd (tK T l0 = 12) <|
      bP (tW T l0 1) fun r13 =>
      gd (tK T r13 = 5) <|
      bP (h_4004 r13 T) fun r14 =>
      gd (tK T r12 = 7) <|
      bS (tsB T r12 (xadd (tC T r12) (tB T r12) r14)) fun T15 =>
      h_11020_L133 100 l0 l1 l2 l3 l4 0 bc bs T15
    else
      gd (tK T l4 = 2) <|
      bP (tW T l4 6) fun r16 =>
      gd (tK T l0 = 12) <|
      bP (tW T l0 1) fun r17 =>
      gd (tK T l0 = 12) <|
      bP (tW T l0 10) fun r18 =>
      gd (tK T r18 = 1) <|
      gd (vi l5 (tA T r18).length) <|
      bS ((tA T r18).getD l5.toNatClampNeg 0) fun r19 =>
      gd (tK T r19 = 2) <|
      gd (tK T r19 = 2) <|
      bP (tW T r19 2) fun r20 =>
      gd (tK T r17 = 5) <|
      gd ((2 : Nat) ≤ bc ∧ 160 ≤ bs) <|
      bO (h_4016 r17 r20 T) fun T21 r21 =>
      gd (tK T21 r16 = 7) <|
      bS (tsB T21 r16 (xadd (tC T21 r16) (tB T21 r16) r21)) fun T22 =>
      h_11020_L67 n l0 l1 l2 l3 l4 (l5 + 1) (bc - 2) (bs - 160) T22
def h_11020 (me : Nat) (x0 : Int32) (x1 : Int32) (T : Tx) : Option (Tx × (Nat ⊕ Int32)) :=
  bXp T (h_11037 x0 T) fun r23 =>
  gd (tK T me = 12) <|
  bXp T (h_11040 me x1 T) fun r24 =>
  gd (tK T me = 12) <|
  bOv (h_11042 me T) fun T25 =>
  gd (tK T25 me = 12) <|
  bXp T25 (h_11043 me T25) fun r26 =>
  gd (tK T25 me = 12) <|
  bP (tW T25 me 10) fun r27 =>
  gd (tK T25 r27 = 1) <|
  if (nI (tA T25 r27).length) < 30 then
    bS (tNew T25 2) fun T30 =>
    gd (tK T30 me = 12) <|
    gd (tK T30 me = 12) <|
    bP (tW T30 me 1) fun r31 =>
    gd (tK T30 (tZ T25) = 2) <|
    bOv (h_1000 (tZ T25) x0 r24 (tV T30 me 13) r31 T30) fun T32 =>
    gd (tK T32 me = 12) <|
    bS (tsV T32 me 3 1) fun T33 =>
    h_11020_L67 100 me x0 x1 r24 (tZ T25) 0 80 5414 T33
  else
    some (T25, .inl 3)
set_option maxRecDepth 8000 in
theorem sh_11020 {F : Nat → Prop} {d : Nat} {G : ab_G} {T : Tx} {P : ab_Pq} {X : ab_Xq} (h2 : Rep2 F G T) {me : Nat} {x0 : Int32} {x1 : Int32} {o : Tx × (Nat ⊕ Int32)} (ho : h_11020 me x0 x1 T = some o) (h : ∀ G1 v, o.2 = .inr v → Rep2 F G1 o.1 → SameF F G G1 → P G1 (some (.int v))) (hX : ∀ G1 e, o.2 = .inl e → Rep2 F G1 o.1 → SameF F G G1 → X G1 (exn e)) : ab_Gam (d + 915) 11020 [.ref me, .int x0, .int x1] G P X := by
  have hF : SameF F G G := SameF_rfl
  unfold h_11020 at ho
  refine ab_enter (I := i11020) rfl (Nat.le_of_ble_eq_true rfl) (fun R hR => ?_)
  have h11020_L133 : ∀ (n : Nat) (l0 : Nat) (l1 : Int32) (l2 : Int32) (l3 : Nat) (l4 : Nat) (l5 : Int32)  (T : Tx) (Ga : ab_G) (bc bs : Nat) (h2 : Rep2 F Ga T) (hFa : SameF F G Ga) (ho : h_11020_L133 n l0 l1 l2 l3 l4 l5 bc bs T = some o), R 133 [some (.ref l0), some (.int l1), some (.int l2), some (.ref l3), some (.ref l4), some (.int l5)] [] Ga bc bs := by
    intro n
    induction n with
    | zero => intro l0 l1 l2 l3 l4 l5  T Ga bc bs h2 hFa ho; exact absurd ho (by intro hc; cases hc)
    | succ n133 ih133 =>
      intro l0 l1 l2 l3 l4 l5  T Ga bc bs h2 hFa ho
      rw [h_11020_L133] at ho
      refine us_iload hR dX10_hand_133 rfl ?_
      refine us_aload_n hR dX10_hand_135 rfl ?_
      have hg := gd_c ho
      rw [gd_e hg] at ho
      refine us_callV hR dX10_hand_136 (y := 2002) (by decide +kernel) (by decide) (J := i2002) rfl rfl rfl rfl (H_kind1 h2 hg (by decide)) rfl (Nat.le_of_ble_eq_true rfl) (Nat.zero_le _) (Nat.zero_le _) ?_
      obtain ⟨r1, hr1⟩ := bP_ex ho
      replace ho := bP_go ho hr1
      refine sh_2002 h2 hr1 ?_
      refine us_icmp_ge hR dX10_hand_139 160 (by decide) (fun c2 => ?_) (fun c2 => ?_)
      · rw [if_pos c2] at ho
        refine us_aload_n hR dX10_hand_160 rfl ?_
        have hg := gd_c ho
        rw [gd_e hg] at ho
        obtain ⟨r3, hr3⟩ := bP_ex ho
        replace ho := bP_go ho hr3
        refine uh_getR h2 hg (by decide) hr3 hR dX10_hand_161 fR_11_67 rfl ?_
        refine us_aload hR dX10_hand_164 rfl ?_
        have hg := gd_c ho
        rw [gd_e hg] at ho
        have hk := hg
        have hg := gd_c ho
        rw [gd_e hg] at ho
        have hg2 := gd_c ho
        rw [gd_e hg2] at ho
        refine us_pri7 hR dX10_hand_166 (by decide +kernel) rfl (H_lst0 h2 hk) rfl (Nat.le_of_ble_eq_true rfl) hg2.1 hg2.2 ?_
        refine hl_add h2 hk hg.1 hg.2 (fun G4 T4 hs4 h24 hF4 => ?_)
        rw [← hs4, bS_eq] at ho
        have hF4 := hFa.tr hF4
        refine us_pop hR dX10_hand_169 rfl ?_
        refine us_aload_n hR dX10_hand_170 rfl ?_
        have hg := gd_c ho
        rw [gd_e hg] at ho
        obtain ⟨r5, hr5⟩ := bP_ex ho
        replace ho := bP_go ho hr5
        refine uh_getR h24 hg (by decide) hr5 hR dX10_hand_171 fR_11_67 rfl ?_
        have hg := gd_c ho
        rw [gd_e hg] at ho
        refine us_pri5 hR dX10_hand_174 (by decide +kernel) rfl (H_lst0 h24 hg) rfl (Nat.le_of_ble_eq_true rfl) (Nat.zero_le _) (Nat.zero_le _) ?_
        refine hl_size h24 hg ?_
        refine us_iconstC hR dX10_hand_177 (c := 1) (by decide) ?_
        refine us_isub hR dX10_hand_178 ?_
        refine us_iret hR dX10_hand_179 rfl rfl ?_
        cases ho
        exact h _ _ rfl h24 hF4
      · rw [if_neg c2] at ho
        refine us_aload_n hR dX10_hand_142 rfl ?_
        refine us_aload hR dX10_hand_143 rfl ?_
        refine us_aload_n hR dX10_hand_145 rfl ?_
        refine us_iload hR dX10_hand_146 rfl ?_
        have hb := gd_c ho
        rw [gd_e hb] at ho
        refine us_callS hR dX10_hand_148 (y := 11041) (by decide +kernel) (by decide) (J := i11041) rfl rfl rfl rfl (rest := _) (Nat.le_of_ble_eq_true rfl) hb.1 hb.2 ?_
        obtain ⟨q7, hq7⟩ := bXp_ex ho
        rw [hq7] at ho
        refine sh_11041 h2 hq7 (fun r7 hr7 => ?_) (fun e7 hr7 => ?_)
        rotate_left
        · subst hr7
          cases ho
          exact ⟨rfl, hX _ _ rfl h2 hFa⟩
        subst hr7
        rw [bXp_some] at ho
        have hg := gd_c ho
        rw [gd_e hg] at ho
        refine us_callV hR dX10_hand_151 (y := 11044) (by decide +kernel) (by decide) (J := i11044) rfl rfl rfl rfl (H_kind1 h2 hg (by decide)) rfl (Nat.le_of_ble_eq_true rfl) (Nat.zero_le _) (Nat.zero_le _) ?_
        obtain ⟨T8, hs8⟩ := bOv_ex ho
        replace ho := bOv_go ho hs8
        refine sh_11044 h2 hs8 (fun G8 h28 hF8 => ?_)
        have hF8 := hFa.tr hF8
        refine us_iincC hR dX10_hand_154 rfl (Nat.le_of_ble_eq_true rfl) (c := 1) (by decide) ?_
        refine us_goto hR dX10_hand_157 133 (by decide) ?_
        exact ih133 l0 l1 l2 l3 l4 (l5 + 1)  T8 G8 _ _ h28 hF8 ho
  have h11020_L67 : ∀ (n : Nat) (l0 : Nat) (l1 : Int32) (l2 : Int32) (l3 : Nat) (l4 : Nat) (l5 : Int32)  (T : Tx) (Ga : ab_G) (bc bs : Nat) (h2 : Rep2 F Ga T) (hFa : SameF F G Ga) (ho : h_11020_L67 n l0 l1 l2 l3 l4 l5 bc bs T = some o), R 67 [some (.ref l0), some (.int l1), some (.int l2), some (.ref l3), some (.ref l4), some (.int l5)] [] Ga bc bs := by
    intro n
    induction n with
    | zero => intro l0 l1 l2 l3 l4 l5  T Ga bc bs h2 hFa ho; exact absurd ho (by intro hc; cases hc)
    | succ n67 ih67 =>
      intro l0 l1 l2 l3 l4 l5  T Ga bc bs h2 hFa ho
      rw [h_11020_L67] at ho
      refine us_iload hR dX10_hand_67 rfl ?_
      refine us_aload_n hR dX10_hand_69 rfl ?_
      have hg := gd_c ho
      rw [gd_e hg] at ho
      obtain ⟨r9, hr9⟩ := bP_ex ho
      replace ho := bP_go ho hr9
      refine uh_getR h2 hg (by decide) hr9 hR dX10_hand_70 fR_11_67 rfl ?_
      have hg := gd_c ho
      rw [gd_e hg] at ho
      refine us_pri5 hR dX10_hand_73 (by decide +kernel) rfl (H_lst0 h2 hg) rfl (Nat.le_of_ble_eq_true rfl) (Nat.zero_le _) (Nat.zero_le _) ?_
      refine hl_size h2 hg ?_
      refine us_icmp_ge hR dX10_hand_76 115 (by decide) (fun c11 => ?_) (fun c11 => ?_)
      · rw [if_pos c11] at ho
        refine us_aload hR dX10_hand_115 rfl ?_
        have hg := gd_c ho
        rw [gd_e hg] at ho
        obtain ⟨r12, hr12⟩ := bP_ex ho
        replace ho := bP_go ho hr12
        refine uh_getR h2 hg (by decide) hr12 hR dX10_hand_117 fR_11_251 rfl ?_
        refine us_aload_n hR dX10_hand_120 rfl ?_
        have hg := gd_c ho
        rw [gd_e hg] at ho
        obtain ⟨r13, hr13⟩ := bP_ex ho
        replace ho := bP_go ho hr13
        refine uh_getR h2 hg (by decide) hr13 hR dX10_hand_121 fR_11_21 rfl ?_
        have hg := gd_c ho
        rw [gd_e hg] at ho
        refine us_callV hR dX10_hand_124 (y := 4004) (by decide +kernel) (by decide) (J := i4004) rfl rfl rfl rfl (H_kind1 h2 hg (by decide)) rfl (Nat.le_of_ble_eq_true rfl) (Nat.zero_le _) (Nat.zero_le _) ?_
        obtain ⟨r14, hr14⟩ := bP_ex ho
        replace ho := bP_go ho hr14
        refine sh_4004 h2 hr14 ?_
        have hg := gd_c ho
        rw [gd_e hg] at ho
        refine us_callV hR dX10_hand_127 (y := 6004) (by decide +kernel) (by decide) (J := i6004) rfl rfl rfl rfl (H_row6 h2 hg) rfl (Nat.le_of_ble_eq_true rfl) (Nat.zero_le _) (Nat.zero_le _) ?_
        refine hr_add h2 hg (fun G15 T15 hs15 h215 hF15 => ?_)
        rw [← hs15, bS_eq] at ho
        have hF15 := hFa.tr hF15
        refine us_iconstC hR dX10_hand_130 (c := 0) (by decide) ?_
        refine us_istore hR dX10_hand_131 (Nat.le_of_ble_eq_true rfl) ?_
        exact h11020_L133 _ l0 l1 l2 l3 l4 0  T15 G15 _ _ h215 hF15 ho
      · rw [if_neg c11] at ho
        refine us_aload hR dX10_hand_79 rfl ?_
        have hg := gd_c ho
        rw [gd_e hg] at ho
        obtain ⟨r16, hr16⟩ := bP_ex ho
        replace ho := bP_go ho hr16
        refine uh_getR h2 hg (by decide) hr16 hR dX10_hand_81 fR_11_251 rfl ?_
        refine us_aload_n hR dX10_hand_84 rfl ?_
        have hg := gd_c ho
        rw [gd_e hg] at ho
        obtain ⟨r17, hr17⟩ := bP_ex ho
        replace ho := bP_go ho hr17
        refine uh_getR h2 hg (by decide) hr17 hR dX10_hand_85 fR_11_21 rfl ?_
        refine us_aload_n hR dX10_hand_88 rfl ?_
        have hg := gd_c ho
        rw [gd_e hg] at ho
        obtain ⟨r18, hr18⟩ := bP_ex ho
        replace ho := bP_go ho hr18
        refine uh_getR h2 hg (by decide) hr18 hR dX10_hand_89 fR_11_67 rfl ?_
        refine us_iload hR dX10_hand_92 rfl ?_
        have hg := gd_c ho
        rw [gd_e hg] at ho
        have hk := hg
        have hg := gd_c ho
        rw [gd_e hg] at ho
        refine us_pri6 hR dX10_hand_94 (by decide +kernel) rfl (H_lst0 h2 hk) rfl (Nat.le_of_ble_eq_true rfl) (Nat.zero_le _) (Nat.zero_le _) ?_
        refine hl_get h2 hk hg ?_
        obtain ⟨r19, hr19⟩ : ∃ r, r = (tA T r18).getD l5.toNatClampNeg 0 := ⟨_, rfl⟩
        rw [← hr19]
        rw [← hr19, bS_eq] at ho
        have hg := gd_c ho
        rw [gd_e hg] at ho
        refine us_cast hR dX10_hand_97 (by decide +kernel) (H_kind1 h2 hg (by decide)) (by decide) ?_
        have hg := gd_c ho
        rw [gd_e hg] at ho
        obtain ⟨r20, hr20⟩ := bP_ex ho
        replace ho := bP_go ho hr20
        refine uh_getR h2 hg (by decide) hr20 hR dX10_hand_100 fR_11_254 rfl ?_
        have hg := gd_c ho
        rw [gd_e hg] at ho
        have hb := gd_c ho
        rw [gd_e hb] at ho
        refine us_callV hR dX10_hand_103 (y := 4016) (by decide +kernel) (by decide) (J := i4016) rfl rfl rfl rfl (H_kind1 h2 hg (by decide)) rfl (Nat.le_of_ble_eq_true rfl) hb.1 hb.2 ?_
        obtain ⟨q21, hs21⟩ := bO_ex ho
        obtain ⟨T21, r21⟩ := q21
        replace ho := bO_go ho hs21
        refine sh_4016 h2 hs21 (fun G21 h221 hF21 => ?_)
        have hF21 := hFa.tr hF21
        have hg := gd_c ho
        rw [gd_e hg] at ho
        refine us_callV hR dX10_hand_106 (y := 6004) (by decide +kernel) (by decide) (J := i6004) rfl rfl rfl rfl (H_row6 h221 hg) rfl (Nat.le_of_ble_eq_true rfl) (Nat.zero_le _) (Nat.zero_le _) ?_
        refine hr_add h221 hg (fun G22 T22 hs22 h222 hF22 => ?_)
        rw [← hs22, bS_eq] at ho
        have hF22 := hF21.tr hF22
        refine us_iincC hR dX10_hand_109 rfl (Nat.le_of_ble_eq_true rfl) (c := 1) (by decide) ?_
        refine us_goto hR dX10_hand_112 67 (by decide) ?_
        exact ih67 l0 l1 l2 l3 l4 (l5 + 1)  T22 G22 _ _ h222 hF22 ho
  change R _ _ _ _ 130 9200
  refine us_iload_n hR dX10_hand_0 rfl ?_
  refine us_callS hR dX10_hand_1 (y := 11037) (by decide +kernel) (by decide) (J := i11037) rfl rfl rfl rfl (rest := _) (Nat.le_of_ble_eq_true rfl) (Nat.le_of_ble_eq_true rfl) (Nat.le_of_ble_eq_true rfl) ?_
  obtain ⟨q23, hq23⟩ := bXp_ex ho
  rw [hq23] at ho
  refine sh_11037 h2 hq23 (fun r23 hr23 => ?_) (fun e23 hr23 => ?_)
  rotate_left
  · subst hr23
    cases ho
    exact ⟨rfl, hX _ _ rfl h2 hF⟩
  subst hr23
  rw [bXp_some] at ho
  change R _ _ _ _ 129 9194
  refine us_aload_n hR dX10_hand_4 rfl ?_
  refine us_iload_n hR dX10_hand_5 rfl ?_
  have hg := gd_c ho
  rw [gd_e hg] at ho
  refine us_callV hR dX10_hand_6 (y := 11040) (by decide +kernel) (by decide) (J := i11040) rfl rfl rfl rfl (H_kind1 h2 hg (by decide)) rfl (Nat.le_of_ble_eq_true rfl) (Nat.le_of_ble_eq_true rfl) (Nat.le_of_ble_eq_true rfl) ?_
  obtain ⟨q24, hq24⟩ := bXp_ex ho
  rw [hq24] at ho
  refine sh_11040 h2 hq24 (fun r24 hr24 => ?_) (fun e24 hr24 => ?_)
  rotate_left
  · subst hr24
    cases ho
    exact ⟨rfl, hX _ _ rfl h2 hF⟩
  subst hr24
  rw [bXp_some] at ho
  change R _ _ _ _ 128 9188
  refine us_astore_n hR dX10_hand_9 (Nat.le_of_ble_eq_true rfl) ?_
  refine us_aload_n hR dX10_hand_10 rfl ?_
  have hg := gd_c ho
  rw [gd_e hg] at ho
  refine us_callV hR dX10_hand_11 (y := 11042) (by decide +kernel) (by decide) (J := i11042) rfl rfl rfl rfl (H_kind1 h2 hg (by decide)) rfl (Nat.le_of_ble_eq_true rfl) (Nat.le_of_ble_eq_true rfl) (Nat.le_of_ble_eq_true rfl) ?_
  obtain ⟨T25, hs25⟩ := bOv_ex ho
  replace ho := bOv_go ho hs25
  refine sh_11042 h2 hs25 (fun G25 h225 hF25 => ?_)
  have hF25 := hF.tr hF25
  change R _ _ _ _ 88 5488
  refine us_aload_n hR dX10_hand_14 rfl ?_
  have hg := gd_c ho
  rw [gd_e hg] at ho
  refine us_callV hR dX10_hand_15 (y := 11043) (by decide +kernel) (by decide) (J := i11043) rfl rfl rfl rfl (H_kind1 h225 hg (by decide)) rfl (Nat.le_of_ble_eq_true rfl) (Nat.le_of_ble_eq_true rfl) (Nat.le_of_ble_eq_true rfl) ?_
  obtain ⟨q26, hq26⟩ := bXp_ex ho
  rw [hq26] at ho
  refine sh_11043 h225 hq26 (fun r26 hr26 => ?_) (fun e26 hr26 => ?_)
  rotate_left
  · subst hr26
    cases ho
    exact ⟨rfl, hX _ _ rfl h225 hF25⟩
  subst hr26
  rw [bXp_some] at ho
  change R _ _ _ _ 87 5482
  refine us_aload_n hR dX10_hand_18 rfl ?_
  have hg := gd_c ho
  rw [gd_e hg] at ho
  obtain ⟨r27, hr27⟩ := bP_ex ho
  replace ho := bP_go ho hr27
  refine uh_getR h225 hg (by decide) hr27 hR dX10_hand_19 fR_11_67 rfl ?_
  have hg := gd_c ho
  rw [gd_e hg] at ho
  refine us_pri5 hR dX10_hand_22 (by decide +kernel) rfl (H_lst0 h225 hg) rfl (Nat.le_of_ble_eq_true rfl) (Nat.zero_le _) (Nat.zero_le _) ?_
  refine hl_size h225 hg ?_
  refine us_bipushC hR dX10_hand_25 (c := 30) (by decide) ?_
  refine us_icmp_lt hR dX10_hand_27 40 (by decide) (fun c29 => ?_) (fun c29 => ?_)
  · rw [if_pos c29] at ho
    change R _ _ _ _ 87 5482
    refine uh_new (ci := 1) 2 h225 (by decide) hR dX10_hand_40 (by decide +kernel) (by decide) (Nat.le_of_ble_eq_true rfl) (Nat.le_of_ble_eq_true rfl) (fun G30 T30 hs30 h230 hF30 => ?_)
    rw [← hs30, bS_eq] at ho
    have hF30 := hF25.tr hF30
    change R _ _ _ _ 86 5474
    refine us_dup hR dX10_hand_43 rfl ?_
    refine us_iload_n hR dX10_hand_44 rfl ?_
    refine us_aload_n hR dX10_hand_45 rfl ?_
    refine us_aload_n hR dX10_hand_46 rfl ?_
    have hg := gd_c ho
    rw [gd_e hg] at ho
    refine uh_getI (ci := 11) (f := 13) h230 hg (by decide) hR dX10_hand_47 fR_11_167 rfl ?_
    refine us_aload_n hR dX10_hand_50 rfl ?_
    have hg := gd_c ho
    rw [gd_e hg] at ho
    obtain ⟨r31, hr31⟩ := bP_ex ho
    replace ho := bP_go ho hr31
    refine uh_getR h230 hg (by decide) hr31 hR dX10_hand_51 fR_11_21 rfl ?_
    have hg := gd_c ho
    rw [gd_e hg] at ho
    refine us_callI hR dX10_hand_54 (y := 1000) (by decide +kernel) (by decide) (J := i1000) rfl rfl rfl rfl (H_kind1 h230 hg (by decide)) rfl (Nat.le_of_ble_eq_true rfl) (Nat.le_of_ble_eq_true rfl) (Nat.le_of_ble_eq_true rfl) ?_
    obtain ⟨T32, hs32⟩ := bOv_ex ho
    replace ho := bOv_go ho hs32
    refine sh_1000 h230 hs32 (fun G32 h232 hF32 => ?_)
    have hF32 := hF30.tr hF32
    change R _ _ _ _ 80 5414
    refine us_astore hR dX10_hand_57 (Nat.le_of_ble_eq_true rfl) ?_
    refine us_aload_n hR dX10_hand_59 rfl ?_
    refine us_iconstC hR dX10_hand_60 (c := 1) (by decide) ?_
    have hg := gd_c ho
    rw [gd_e hg] at ho
    refine uh_putI h232 hg (by decide) hR dX10_hand_61 fR_11_248 (Or.inl rfl) rfl rfl (fun G33 T33 hs33 h233 hF33 => ?_)
    rw [← hs33, bS_eq] at ho
    have hF33 := hF32.tr hF33
    refine us_iconstC hR dX10_hand_64 (c := 0) (by decide) ?_
    refine us_istore hR dX10_hand_65 (Nat.le_of_ble_eq_true rfl) ?_
    exact h11020_L67 _ me x0 x1 r24 (tZ T25) 0  T33 G33 _ _ h233 hF33 ho
  · rw [if_neg c29] at ho
    change R _ _ _ _ 87 5482
    refine us_throw (E := "java/lang/IllegalStateException") (t := "there is no room for an answer") hR dX10_hand_30 (by decide +kernel) (by decide +kernel) dX10_hand_33 rfl dX10_hand_34 (by decide +kernel) dX10_hand_36 dX10_hand_39 (by omega) (Nat.le_of_ble_eq_true rfl) (Nat.le_of_ble_eq_true rfl) (Nat.le_of_ble_eq_true rfl) ?_
    cases ho
    exact hX _ _ rfl h225 hF25
def h_11021 (me : Nat) (T : Tx) : Option Int32 :=
  gd (tK T me = 12) <|
  bP (tW T me 10) fun r1 =>
  gd (tK T r1 = 1) <|
  some ((nI (tA T r1).length))
theorem sh_11021 {F : Nat → Prop} {d : Nat} {G : ab_G} {T : Tx} {P : ab_Pq} {X : ab_Xq} (h2 : Rep2 F G T) {me : Nat} {o : Int32} (ho : h_11021 me T = some o) (h : P G (some (.int o))) : ab_Gam (d + 42) 11021 [.ref me] G P X := by
  have hF : SameF F G G := SameF_rfl
  unfold h_11021 at ho
  refine ab_enter (I := i11021) rfl (Nat.le_of_ble_eq_true rfl) (fun R hR => ?_)
  refine us_aload_n hR dX10_answers_0 rfl ?_
  have hg := gd_c ho
  rw [gd_e hg] at ho
  obtain ⟨r1, hr1⟩ := bP_ex ho
  replace ho := bP_go ho hr1
  refine uh_getR h2 hg (by decide) hr1 hR dX10_answers_1 fR_11_67 rfl ?_
  have hg := gd_c ho
  rw [gd_e hg] at ho
  refine us_pri5 hR dX10_answers_4 (by decide +kernel) rfl (H_lst0 h2 hg) rfl (Nat.le_of_ble_eq_true rfl) (Nat.zero_le _) (Nat.zero_le _) ?_
  refine hl_size h2 hg ?_
  refine us_iret hR dX10_answers_7 rfl rfl ?_
  cases ho
  exact h
def h_11022 (me : Nat) (x0 : Int32) (x1 : Int32) (T : Tx) : Option (Nat ⊕ Int32) :=
  gd (tK T me = 12) <|
  bXn (h_11039 me x0 T) fun r1 =>
  gd (tK T r1 = 2) <|
  bP (tW T r1 1) fun r2 =>
  bXn (h_11041 r2 x1 T) fun r3 =>
  gd (tK T r1 = 2) <|
  bP (tW T r1 5) fun r4 =>
  gd (tK T r4 = 7) <|
  if (xg (tB T r4) x1) = 1 then
    some (.inr 1)
  else
    some (.inr 0)
theorem sh_11022 {F : Nat → Prop} {d : Nat} {G : ab_G} {T : Tx} {P : ab_Pq} {X : ab_Xq} (h2 : Rep2 F G T) {me : Nat} {x0 : Int32} {x1 : Int32} {o : (Nat ⊕ Int32)} (ho : h_11022 me x0 x1 T = some o) (h : ∀ v, o = .inr v → P G (some (.int v))) (hX : ∀ e, o = .inl e → X G (exn e)) : ab_Gam (d + 44) 11022 [.ref me, .int x0, .int x1] G P X := by
  have hF : SameF F G G := SameF_rfl
  unfold h_11022 at ho
  refine ab_enter (I := i11022) rfl (Nat.le_of_ble_eq_true rfl) (fun R hR => ?_)
  change R _ _ _ _ 2 12
  refine us_aload_n hR dX10_passes_0 rfl ?_
  refine us_iload_n hR dX10_passes_1 rfl ?_
  have hg := gd_c ho
  rw [gd_e hg] at ho
  refine us_callV hR dX10_passes_2 (y := 11039) (by decide +kernel) (by decide) (J := i11039) rfl rfl rfl rfl (H_kind1 h2 hg (by decide)) rfl (Nat.le_of_ble_eq_true rfl) (Nat.le_of_ble_eq_true rfl) (Nat.le_of_ble_eq_true rfl) ?_
  obtain ⟨q1, hq1⟩ := bXn_ex ho
  rw [hq1] at ho
  refine sh_11039 h2 hq1 (fun r1 hr1 => ?_) (fun e1 hr1 => ?_)
  rotate_left
  · subst hr1
    cases ho
    exact ⟨rfl, hX _ rfl⟩
  subst hr1
  rw [bXn_some] at ho
  change R _ _ _ _ 1 6
  refine us_astore_n hR dX10_passes_5 (Nat.le_of_ble_eq_true rfl) ?_
  refine us_aload_n hR dX10_passes_6 rfl ?_
  have hg := gd_c ho
  rw [gd_e hg] at ho
  obtain ⟨r2, hr2⟩ := bP_ex ho
  replace ho := bP_go ho hr2
  refine uh_getR h2 hg (by decide) hr2 hR dX10_passes_7 fR_11_210 rfl ?_
  refine us_iload_n hR dX10_passes_10 rfl ?_
  refine us_callS hR dX10_passes_11 (y := 11041) (by decide +kernel) (by decide) (J := i11041) rfl rfl rfl rfl (rest := _) (Nat.le_of_ble_eq_true rfl) (Nat.le_of_ble_eq_true rfl) (Nat.le_of_ble_eq_true rfl) ?_
  obtain ⟨q3, hq3⟩ := bXn_ex ho
  rw [hq3] at ho
  refine sh_11041 h2 hq3 (fun r3 hr3 => ?_) (fun e3 hr3 => ?_)
  rotate_left
  · subst hr3
    cases ho
    exact ⟨rfl, hX _ rfl⟩
  subst hr3
  rw [bXn_some] at ho
  change R _ _ _ _ 0 0
  refine us_pop hR dX10_passes_14 rfl ?_
  refine us_aload_n hR dX10_passes_15 rfl ?_
  have hg := gd_c ho
  rw [gd_e hg] at ho
  obtain ⟨r4, hr4⟩ := bP_ex ho
  replace ho := bP_go ho hr4
  refine uh_getR h2 hg (by decide) hr4 hR dX10_passes_16 fR_11_265 rfl ?_
  refine us_iload_n hR dX10_passes_19 rfl ?_
  have hg := gd_c ho
  rw [gd_e hg] at ho
  refine us_callV hR dX10_passes_20 (y := 6002) (by decide +kernel) (by decide) (J := i6002) rfl rfl rfl rfl (H_row6 h2 hg) rfl (Nat.le_of_ble_eq_true rfl) (Nat.zero_le _) (Nat.zero_le _) ?_
  refine hr_get h2 hg ?_
  refine us_iconstC hR dX10_passes_23 (c := 1) (by decide) ?_
  refine us_icmp_ne hR dX10_passes_24 31 (by decide) (fun c6 => ?_) (fun c6 => ?_)
  · rw [if_neg c6] at ho
    change R _ _ _ _ 0 0
    refine us_iconstC hR dX10_passes_31 (c := 0) (by decide) ?_
    refine us_iret hR dX10_passes_32 rfl (nar01 (Or.inl rfl)) ?_
    cases ho
    exact h _ rfl
  · rw [if_pos c6] at ho
    change R _ _ _ _ 0 0
    refine us_iconstC hR dX10_passes_27 (c := 1) (by decide) ?_
    refine us_goto hR dX10_passes_28 32 (by decide) ?_
    refine us_iret hR dX10_passes_32 rfl (nar01 (Or.inr rfl)) ?_
    cases ho
    exact h _ rfl
def h_11023 (me : Nat) (x0 : Int32) (x1 : Int32) (T : Tx) : Option (Nat ⊕ Int32) :=
  gd (tK T me = 12) <|
  bXn (h_11039 me x0 T) fun r1 =>
  gd (tK T r1 = 2) <|
  bP (tW T r1 1) fun r2 =>
  bXn (h_11041 r2 x1 T) fun r3 =>
  gd (tK T r1 = 2) <|
  bP (tW T r1 4) fun r4 =>
  gd (tK T r4 = 7) <|
  some (.inr (xg (tB T r4) x1))
theorem sh_11023 {F : Nat → Prop} {d : Nat} {G : ab_G} {T : Tx} {P : ab_Pq} {X : ab_Xq} (h2 : Rep2 F G T) {me : Nat} {x0 : Int32} {x1 : Int32} {o : (Nat ⊕ Int32)} (ho : h_11023 me x0 x1 T = some o) (h : ∀ v, o = .inr v → P G (some (.int v))) (hX : ∀ e, o = .inl e → X G (exn e)) : ab_Gam (d + 44) 11023 [.ref me, .int x0, .int x1] G P X := by
  have hF : SameF F G G := SameF_rfl
  unfold h_11023 at ho
  refine ab_enter (I := i11023) rfl (Nat.le_of_ble_eq_true rfl) (fun R hR => ?_)
  change R _ _ _ _ 2 12
  refine us_aload_n hR dX10_endOf_0 rfl ?_
  refine us_iload_n hR dX10_endOf_1 rfl ?_
  have hg := gd_c ho
  rw [gd_e hg] at ho
  refine us_callV hR dX10_endOf_2 (y := 11039) (by decide +kernel) (by decide) (J := i11039) rfl rfl rfl rfl (H_kind1 h2 hg (by decide)) rfl (Nat.le_of_ble_eq_true rfl) (Nat.le_of_ble_eq_true rfl) (Nat.le_of_ble_eq_true rfl) ?_
  obtain ⟨q1, hq1⟩ := bXn_ex ho
  rw [hq1] at ho
  refine sh_11039 h2 hq1 (fun r1 hr1 => ?_) (fun e1 hr1 => ?_)
  rotate_left
  · subst hr1
    cases ho
    exact ⟨rfl, hX _ rfl⟩
  subst hr1
  rw [bXn_some] at ho
  change R _ _ _ _ 1 6
  refine us_astore_n hR dX10_endOf_5 (Nat.le_of_ble_eq_true rfl) ?_
  refine us_aload_n hR dX10_endOf_6 rfl ?_
  have hg := gd_c ho
  rw [gd_e hg] at ho
  obtain ⟨r2, hr2⟩ := bP_ex ho
  replace ho := bP_go ho hr2
  refine uh_getR h2 hg (by decide) hr2 hR dX10_endOf_7 fR_11_210 rfl ?_
  refine us_iload_n hR dX10_endOf_10 rfl ?_
  refine us_callS hR dX10_endOf_11 (y := 11041) (by decide +kernel) (by decide) (J := i11041) rfl rfl rfl rfl (rest := _) (Nat.le_of_ble_eq_true rfl) (Nat.le_of_ble_eq_true rfl) (Nat.le_of_ble_eq_true rfl) ?_
  obtain ⟨q3, hq3⟩ := bXn_ex ho
  rw [hq3] at ho
  refine sh_11041 h2 hq3 (fun r3 hr3 => ?_) (fun e3 hr3 => ?_)
  rotate_left
  · subst hr3
    cases ho
    exact ⟨rfl, hX _ rfl⟩
  subst hr3
  rw [bXn_some] at ho
  change R _ _ _ _ 0 0
  refine us_pop hR dX10_endOf_14 rfl ?_
  refine us_aload_n hR dX10_endOf_15 rfl ?_
  have hg := gd_c ho
  rw [gd_e hg] at ho
  obtain ⟨r4, hr4⟩ := bP_ex ho
  replace ho := bP_go ho hr4
  refine uh_getR h2 hg (by decide) hr4 hR dX10_endOf_16 fR_11_268 rfl ?_
  refine us_iload_n hR dX10_endOf_19 rfl ?_
  have hg := gd_c ho
  rw [gd_e hg] at ho
  refine us_callV hR dX10_endOf_20 (y := 6002) (by decide +kernel) (by decide) (J := i6002) rfl rfl rfl rfl (H_row6 h2 hg) rfl (Nat.le_of_ble_eq_true rfl) (Nat.zero_le _) (Nat.zero_le _) ?_
  refine hr_get h2 hg ?_
  refine us_iret hR dX10_endOf_23 rfl rfl ?_
  cases ho
  exact h _ rfl
def h_11024 (me : Nat) (x0 : Int32) (T : Tx) : Option (Nat ⊕ Int32) :=
  gd (tK T me = 12) <|
  bXn (h_11039 me x0 T) fun r1 =>
  gd (tK T r1 = 2) <|
  bP (tW T r1 1) fun r2 =>
  gd (tK T r1 = 2) <|
  bP (tW T r1 5) fun r3 =>
  gd (tK T r2 = 3) <|
  bP (h_2004 r2 r3 T) fun r4 =>
  some (.inr r4)
theorem sh_11024 {F : Nat → Prop} {d : Nat} {G : ab_G} {T : Tx} {P : ab_Pq} {X : ab_Xq} (h2 : Rep2 F G T) {me : Nat} {x0 : Int32} {o : (Nat ⊕ Int32)} (ho : h_11024 me x0 T = some o) (h : ∀ v, o = .inr v → P G (some (.int v))) (hX : ∀ e, o = .inl e → X G (exn e)) : ab_Gam (d + 43) 11024 [.ref me, .int x0] G P X := by
  have hF : SameF F G G := SameF_rfl
  unfold h_11024 at ho
  refine ab_enter (I := i11024) rfl (Nat.le_of_ble_eq_true rfl) (fun R hR => ?_)
  change R _ _ _ _ 1 6
  refine us_aload_n hR dX10_points_0 rfl ?_
  refine us_iload_n hR dX10_points_1 rfl ?_
  have hg := gd_c ho
  rw [gd_e hg] at ho
  refine us_callV hR dX10_points_2 (y := 11039) (by decide +kernel) (by decide) (J := i11039) rfl rfl rfl rfl (H_kind1 h2 hg (by decide)) rfl (Nat.le_of_ble_eq_true rfl) (Nat.le_of_ble_eq_true rfl) (Nat.le_of_ble_eq_true rfl) ?_
  obtain ⟨q1, hq1⟩ := bXn_ex ho
  rw [hq1] at ho
  refine sh_11039 h2 hq1 (fun r1 hr1 => ?_) (fun e1 hr1 => ?_)
  rotate_left
  · subst hr1
    cases ho
    exact ⟨rfl, hX _ rfl⟩
  subst hr1
  rw [bXn_some] at ho
  change R _ _ _ _ 0 0
  refine us_astore_n hR dX10_points_5 (Nat.le_of_ble_eq_true rfl) ?_
  refine us_aload_n hR dX10_points_6 rfl ?_
  have hg := gd_c ho
  rw [gd_e hg] at ho
  obtain ⟨r2, hr2⟩ := bP_ex ho
  replace ho := bP_go ho hr2
  refine uh_getR h2 hg (by decide) hr2 hR dX10_points_7 fR_11_210 rfl ?_
  refine us_aload_n hR dX10_points_10 rfl ?_
  have hg := gd_c ho
  rw [gd_e hg] at ho
  obtain ⟨r3, hr3⟩ := bP_ex ho
  replace ho := bP_go ho hr3
  refine uh_getR h2 hg (by decide) hr3 hR dX10_points_11 fR_11_265 rfl ?_
  have hg := gd_c ho
  rw [gd_e hg] at ho
  refine us_callV hR dX10_points_14 (y := 2004) (by decide +kernel) (by decide) (J := i2004) rfl rfl rfl rfl (H_kind1 h2 hg (by decide)) rfl (Nat.le_of_ble_eq_true rfl) (Nat.zero_le _) (Nat.zero_le _) ?_
  obtain ⟨r4, hr4⟩ := bP_ex ho
  replace ho := bP_go ho hr4
  refine sh_2004 h2 hr4 ?_
  refine us_iret hR dX10_points_17 rfl rfl ?_
  cases ho
  exact h _ rfl
def h_11025 (me : Nat) (x0 : Int32) (T : Tx) : Option (Nat ⊕ Int32) :=
  gd (tK T me = 12) <|
  bXn (h_11039 me x0 T) fun r1 =>
  gd (tK T r1 = 2) <|
  bP (h_1001 r1 T) fun r2 =>
  some (.inr r2)
theorem sh_11025 {F : Nat → Prop} {d : Nat} {G : ab_G} {T : Tx} {P : ab_Pq} {X : ab_Xq} (h2 : Rep2 F G T) {me : Nat} {x0 : Int32} {o : (Nat ⊕ Int32)} (ho : h_11025 me x0 T = some o) (h : ∀ v, o = .inr v → P G (some (.int v))) (hX : ∀ e, o = .inl e → X G (exn e)) : ab_Gam (d + 44) 11025 [.ref me, .int x0] G P X := by
  have hF : SameF F G G := SameF_rfl
  unfold h_11025 at ho
  refine ab_enter (I := i11025) rfl (Nat.le_of_ble_eq_true rfl) (fun R hR => ?_)
  change R _ _ _ _ 1 6
  refine us_aload_n hR dX10_mark_0 rfl ?_
  refine us_iload_n hR dX10_mark_1 rfl ?_
  have hg := gd_c ho
  rw [gd_e hg] at ho
  refine us_callV hR dX10_mark_2 (y := 11039) (by decide +kernel) (by decide) (J := i11039) rfl rfl rfl rfl (H_kind1 h2 hg (by decide)) rfl (Nat.le_of_ble_eq_true rfl) (Nat.le_of_ble_eq_true rfl) (Nat.le_of_ble_eq_true rfl) ?_
  obtain ⟨q1, hq1⟩ := bXn_ex ho
  rw [hq1] at ho
  refine sh_11039 h2 hq1 (fun r1 hr1 => ?_) (fun e1 hr1 => ?_)
  rotate_left
  · subst hr1
    cases ho
    exact ⟨rfl, hX _ rfl⟩
  subst hr1
  rw [bXn_some] at ho
  change R _ _ _ _ 0 0
  have hg := gd_c ho
  rw [gd_e hg] at ho
  refine us_callV hR dX10_mark_5 (y := 1001) (by decide +kernel) (by decide) (J := i1001) rfl rfl rfl rfl (H_kind1 h2 hg (by decide)) rfl (Nat.le_of_ble_eq_true rfl) (Nat.zero_le _) (Nat.zero_le _) ?_
  obtain ⟨r2, hr2⟩ := bP_ex ho
  replace ho := bP_go ho hr2
  refine sh_1001 h2 hr2 ?_
  refine us_iret hR dX10_mark_8 rfl rfl ?_
  cases ho
  exact h _ rfl
def h_11026_L21 : Nat → Nat → Int32 → Nat → Nat → Int32 → Nat → Nat → Tx → Option (Tx × (Nat ⊕ Int32))
  | 0, _, _, _, _, _, _, _, _ => none
  | n + 1, l0, l1, l2, l3, l4, bc, bs, T =>
    gd (tK T l3 = 3) <|
    bP (h_2002 l3 T) fun r1 =>
    if r1 ≤ l4 then
      gd (tK T l0 = 12) <|
      bP (tW T l0 12) fun r3 =>
      gd (tK T l3 = 3) <|
      bP (h_2004 l3 r3 T) fun r4 =>
      gd (tK T l2 = 2) <|
      bP (h_1002 l2 r4 T) fun r5 =>
      some (T, .inr r5)
    else
      gd ((1 : Nat) ≤ bc ∧ 6 ≤ bs) <|
      bXp T (h_11041 l3 l4 T) fun r6 =>
      gd (tK T l0 = 12) <|
      bP (tW T l0 8) fun r7 =>
      gd (tK T l2 = 2) <|
      bP (tW T l2 2) fun r8 =>
      gd (tK T l0 = 12) <|
      bP (tW T l0 6) fun r9 =>
      gd (tK T l3 = 3) <|
      gd (tK T r6 = 9) <|
      gd (tK T r6 = 9) <|
      gd (tK T r7 = 11) <|
      bOv (h_10001 l0 r7 r8 r9 (tV T l3 1) (tV T r6 1) (tV T r6 2) T) fun T10 =>
      gd (tK T10 l0 = 12) <|
      bP (tW T10 l0 12) fun r11 =>
      gd (tK T10 l0 = 12) <|
      bP (tW T10 l0 6) fun r12 =>
      gd (tK T10 r6 = 9) <|
      bP (h_8001 r6 r12 T10) fun r13 =>
      if r13 = 0 then
        gd (tK T10 r11 = 7) <|
        bS (tsB T10 r11 (xadd (tC T10 r11) (tB T10 r11) 0)) fun T15 =>
        h_11026_L21 n l0 l1 l2 l3 (l4 + 1) (bc - 1) (bs - 6) T15
      else
        gd (tK T10 r11 = 7) <|
        bS (tsB T10 r11 (xadd (tC T10 r11) (tB T10 r11) 1)) fun T16 =>
        h_11026_L21 n l0 l1 l2 l3 (l4 + 1) (bc - 1) (bs - 6) T16
def h_11026 (me : Nat) (x0 : Int32) (T : Tx) : Option (Tx × (Nat ⊕ Int32)) :=
  gd (tK T me = 12) <|
  bXp T (h_11039 me x0 T) fun r17 =>
  gd (tK T r17 = 2) <|
  bP (tW T r17 1) fun r18 =>
  gd (tK T me = 12) <|
  bP (tW T me 12) fun r19 =>
  gd (tK T r19 = 7) <|
  bS (tsB T r19 []) fun T20 =>
  h_11026_L21 100 me x0 r17 r18 0 8 48 T20
theorem sh_11026 {F : Nat → Prop} {d : Nat} {G : ab_G} {T : Tx} {P : ab_Pq} {X : ab_Xq} (h2 : Rep2 F G T) {me : Nat} {x0 : Int32} {o : Tx × (Nat ⊕ Int32)} (ho : h_11026 me x0 T = some o) (h : ∀ G1 v, o.2 = .inr v → Rep2 F G1 o.1 → SameF F G G1 → P G1 (some (.int v))) (hX : ∀ G1 e, o.2 = .inl e → Rep2 F G1 o.1 → SameF F G G1 → X G1 (exn e)) : ab_Gam (d + 44) 11026 [.ref me, .int x0] G P X := by
  have hF : SameF F G G := SameF_rfl
  unfold h_11026 at ho
  refine ab_enter (I := i11026) rfl (Nat.le_of_ble_eq_true rfl) (fun R hR => ?_)
  have h11026_L21 : ∀ (n : Nat) (l0 : Nat) (l1 : Int32) (l2 : Nat) (l3 : Nat) (l4 : Int32) (w5 : Option Value) (T : Tx) (Ga : ab_G) (bc bs : Nat) (h2 : Rep2 F Ga T) (hFa : SameF F G Ga) (ho : h_11026_L21 n l0 l1 l2 l3 l4 bc bs T = some o), R 21 [some (.ref l0), some (.int l1), some (.ref l2), some (.ref l3), some (.int l4), w5] [] Ga bc bs := by
    intro n
    induction n with
    | zero => intro l0 l1 l2 l3 l4 w5 T Ga bc bs h2 hFa ho; exact absurd ho (by intro hc; cases hc)
    | succ n21 ih21 =>
      intro l0 l1 l2 l3 l4 w5 T Ga bc bs h2 hFa ho
      rw [h_11026_L21] at ho
      refine us_iload hR dX10_markAnew_21 rfl ?_
      refine us_aload_n hR dX10_markAnew_23 rfl ?_
      have hg := gd_c ho
      rw [gd_e hg] at ho
      refine us_callV hR dX10_markAnew_24 (y := 2002) (by decide +kernel) (by decide) (J := i2002) rfl rfl rfl rfl (H_kind1 h2 hg (by decide)) rfl (Nat.le_of_ble_eq_true rfl) (Nat.zero_le _) (Nat.zero_le _) ?_
      obtain ⟨r1, hr1⟩ := bP_ex ho
      replace ho := bP_go ho hr1
      refine sh_2002 h2 hr1 ?_
      refine us_icmp_ge hR dX10_markAnew_27 97 (by decide) (fun c2 => ?_) (fun c2 => ?_)
      · rw [if_pos c2] at ho
        refine us_aload_n hR dX10_markAnew_97 rfl ?_
        refine us_aload_n hR dX10_markAnew_98 rfl ?_
        refine us_aload_n hR dX10_markAnew_99 rfl ?_
        have hg := gd_c ho
        rw [gd_e hg] at ho
        obtain ⟨r3, hr3⟩ := bP_ex ho
        replace ho := bP_go ho hr3
        refine uh_getR h2 hg (by decide) hr3 hR dX10_markAnew_100 fR_11_73 rfl ?_
        have hg := gd_c ho
        rw [gd_e hg] at ho
        refine us_callV hR dX10_markAnew_103 (y := 2004) (by decide +kernel) (by decide) (J := i2004) rfl rfl rfl rfl (H_kind1 h2 hg (by decide)) rfl (Nat.le_of_ble_eq_true rfl) (Nat.zero_le _) (Nat.zero_le _) ?_
        obtain ⟨r4, hr4⟩ := bP_ex ho
        replace ho := bP_go ho hr4
        refine sh_2004 h2 hr4 ?_
        have hg := gd_c ho
        rw [gd_e hg] at ho
        refine us_callV hR dX10_markAnew_106 (y := 1002) (by decide +kernel) (by decide) (J := i1002) rfl rfl rfl rfl (H_kind1 h2 hg (by decide)) rfl (Nat.le_of_ble_eq_true rfl) (Nat.zero_le _) (Nat.zero_le _) ?_
        obtain ⟨r5, hr5⟩ := bP_ex ho
        replace ho := bP_go ho hr5
        refine sh_1002 h2 hr5 ?_
        refine us_iret hR dX10_markAnew_109 rfl rfl ?_
        cases ho
        exact h _ _ rfl h2 hFa
      · rw [if_neg c2] at ho
        refine us_aload_n hR dX10_markAnew_30 rfl ?_
        refine us_iload hR dX10_markAnew_31 rfl ?_
        have hb := gd_c ho
        rw [gd_e hb] at ho
        refine us_callS hR dX10_markAnew_33 (y := 11041) (by decide +kernel) (by decide) (J := i11041) rfl rfl rfl rfl (rest := _) (Nat.le_of_ble_eq_true rfl) hb.1 hb.2 ?_
        obtain ⟨q6, hq6⟩ := bXp_ex ho
        rw [hq6] at ho
        refine sh_11041 h2 hq6 (fun r6 hr6 => ?_) (fun e6 hr6 => ?_)
        rotate_left
        · subst hr6
          cases ho
          exact ⟨rfl, hX _ _ rfl h2 hFa⟩
        subst hr6
        rw [bXp_some] at ho
        refine us_astore hR dX10_markAnew_36 (Nat.le_of_ble_eq_true rfl) ?_
        refine us_aload_n hR dX10_markAnew_38 rfl ?_
        have hg := gd_c ho
        rw [gd_e hg] at ho
        obtain ⟨r7, hr7⟩ := bP_ex ho
        replace ho := bP_go ho hr7
        refine uh_getR h2 hg (by decide) hr7 hR dX10_markAnew_39 fR_11_56 rfl ?_
        refine us_aload_n hR dX10_markAnew_42 rfl ?_
        have hg := gd_c ho
        rw [gd_e hg] at ho
        obtain ⟨r8, hr8⟩ := bP_ex ho
        replace ho := bP_go ho hr8
        refine uh_getR h2 hg (by decide) hr8 hR dX10_markAnew_43 fR_11_254 rfl ?_
        refine us_aload_n hR dX10_markAnew_46 rfl ?_
        have hg := gd_c ho
        rw [gd_e hg] at ho
        obtain ⟨r9, hr9⟩ := bP_ex ho
        replace ho := bP_go ho hr9
        refine uh_getR h2 hg (by decide) hr9 hR dX10_markAnew_47 fR_11_41 rfl ?_
        refine us_aload_n hR dX10_markAnew_50 rfl ?_
        have hg := gd_c ho
        rw [gd_e hg] at ho
        refine uh_getI (ci := 2) (f := 1) h2 hg (by decide) hR dX10_markAnew_51 fR_11_275 rfl ?_
        refine us_aload hR dX10_markAnew_54 rfl ?_
        have hg := gd_c ho
        rw [gd_e hg] at ho
        refine uh_getI (ci := 8) (f := 1) h2 hg (by decide) hR dX10_markAnew_56 fR_11_277 rfl ?_
        refine us_aload hR dX10_markAnew_59 rfl ?_
        have hg := gd_c ho
        rw [gd_e hg] at ho
        refine uh_getI (ci := 8) (f := 2) h2 hg (by decide) hR dX10_markAnew_61 fR_11_280 rfl ?_
        have hg := gd_c ho
        rw [gd_e hg] at ho
        refine us_callV hR dX10_markAnew_64 (y := 10001) (by decide +kernel) (by decide) (J := i10001) rfl rfl rfl rfl (H_kind1 h2 hg (by decide)) rfl (Nat.le_of_ble_eq_true rfl) (Nat.zero_le _) (Nat.zero_le _) ?_
        obtain ⟨T10, hs10⟩ := bOv_ex ho
        replace ho := bOv_go ho hs10
        refine sh_10001 h2 l0 hs10 (fun G10 h210 hF10 => ?_)
        have hF10 := hFa.tr hF10
        refine us_aload_n hR dX10_markAnew_67 rfl ?_
        have hg := gd_c ho
        rw [gd_e hg] at ho
        obtain ⟨r11, hr11⟩ := bP_ex ho
        replace ho := bP_go ho hr11
        refine uh_getR h210 hg (by decide) hr11 hR dX10_markAnew_68 fR_11_73 rfl ?_
        refine us_aload hR dX10_markAnew_71 rfl ?_
        refine us_aload_n hR dX10_markAnew_73 rfl ?_
        have hg := gd_c ho
        rw [gd_e hg] at ho
        obtain ⟨r12, hr12⟩ := bP_ex ho
        replace ho := bP_go ho hr12
        refine uh_getR h210 hg (by decide) hr12 hR dX10_markAnew_74 fR_11_41 rfl ?_
        have hg := gd_c ho
        rw [gd_e hg] at ho
        refine us_callV hR dX10_markAnew_77 (y := 8001) (by decide +kernel) (by decide) (J := i8001) rfl rfl rfl rfl (H_kind1 h210 hg (by decide)) rfl (Nat.le_of_ble_eq_true rfl) (Nat.zero_le _) (Nat.zero_le _) ?_
        obtain ⟨r13, hr13⟩ := bP_ex ho
        replace ho := bP_go ho hr13
        refine sh_8001 h210 hr13 (fun hb13 => ?_)
        refine us_if_eq hR dX10_markAnew_80 87 (by decide) (fun c14 => ?_) (fun c14 => ?_)
        · rw [if_pos c14] at ho
          refine us_iconstC hR dX10_markAnew_87 (c := 0) (by decide) ?_
          have hg := gd_c ho
          rw [gd_e hg] at ho
          refine us_callV hR dX10_markAnew_88 (y := 6004) (by decide +kernel) (by decide) (J := i6004) rfl rfl rfl rfl (H_row6 h210 hg) rfl (Nat.le_of_ble_eq_true rfl) (Nat.zero_le _) (Nat.zero_le _) ?_
          refine hr_add h210 hg (fun G15 T15 hs15 h215 hF15 => ?_)
          rw [← hs15, bS_eq] at ho
          have hF15 := hF10.tr hF15
          refine us_iincC hR dX10_markAnew_91 rfl (Nat.le_of_ble_eq_true rfl) (c := 1) (by decide) ?_
          refine us_goto hR dX10_markAnew_94 21 (by decide) ?_
          exact ih21 l0 l1 l2 l3 (l4 + 1) _ T15 G15 _ _ h215 hF15 ho
        · rw [if_neg c14] at ho
          refine us_iconstC hR dX10_markAnew_83 (c := 1) (by decide) ?_
          refine us_goto hR dX10_markAnew_84 88 (by decide) ?_
          have hg := gd_c ho
          rw [gd_e hg] at ho
          refine us_callV hR dX10_markAnew_88 (y := 6004) (by decide +kernel) (by decide) (J := i6004) rfl rfl rfl rfl (H_row6 h210 hg) rfl (Nat.le_of_ble_eq_true rfl) (Nat.zero_le _) (Nat.zero_le _) ?_
          refine hr_add h210 hg (fun G16 T16 hs16 h216 hF16 => ?_)
          rw [← hs16, bS_eq] at ho
          have hF16 := hF10.tr hF16
          refine us_iincC hR dX10_markAnew_91 rfl (Nat.le_of_ble_eq_true rfl) (c := 1) (by decide) ?_
          refine us_goto hR dX10_markAnew_94 21 (by decide) ?_
          exact ih21 l0 l1 l2 l3 (l4 + 1) _ T16 G16 _ _ h216 hF16 ho
  change R _ _ _ _ 9 54
  refine us_aload_n hR dX10_markAnew_0 rfl ?_
  refine us_iload_n hR dX10_markAnew_1 rfl ?_
  have hg := gd_c ho
  rw [gd_e hg] at ho
  refine us_callV hR dX10_markAnew_2 (y := 11039) (by decide +kernel) (by decide) (J := i11039) rfl rfl rfl rfl (H_kind1 h2 hg (by decide)) rfl (Nat.le_of_ble_eq_true rfl) (Nat.le_of_ble_eq_true rfl) (Nat.le_of_ble_eq_true rfl) ?_
  obtain ⟨q17, hq17⟩ := bXp_ex ho
  rw [hq17] at ho
  refine sh_11039 h2 hq17 (fun r17 hr17 => ?_) (fun e17 hr17 => ?_)
  rotate_left
  · subst hr17
    cases ho
    exact ⟨rfl, hX _ _ rfl h2 hF⟩
  subst hr17
  rw [bXp_some] at ho
  change R _ _ _ _ 8 48
  refine us_astore_n hR dX10_markAnew_5 (Nat.le_of_ble_eq_true rfl) ?_
  refine us_aload_n hR dX10_markAnew_6 rfl ?_
  have hg := gd_c ho
  rw [gd_e hg] at ho
  obtain ⟨r18, hr18⟩ := bP_ex ho
  replace ho := bP_go ho hr18
  refine uh_getR h2 hg (by decide) hr18 hR dX10_markAnew_7 fR_11_210 rfl ?_
  refine us_astore_n hR dX10_markAnew_10 (Nat.le_of_ble_eq_true rfl) ?_
  refine us_aload_n hR dX10_markAnew_11 rfl ?_
  have hg := gd_c ho
  rw [gd_e hg] at ho
  obtain ⟨r19, hr19⟩ := bP_ex ho
  replace ho := bP_go ho hr19
  refine uh_getR h2 hg (by decide) hr19 hR dX10_markAnew_12 fR_11_73 rfl ?_
  have hg := gd_c ho
  rw [gd_e hg] at ho
  refine us_callV hR dX10_markAnew_15 (y := 6008) (by decide +kernel) (by decide) (J := i6008) rfl rfl rfl rfl (H_row6 h2 hg) rfl (Nat.le_of_ble_eq_true rfl) (Nat.zero_le _) (Nat.zero_le _) ?_
  refine hr_empty h2 hg (fun G20 T20 hs20 h220 hF20 => ?_)
  rw [← hs20, bS_eq] at ho
  have hF20 := hF.tr hF20
  refine us_iconstC hR dX10_markAnew_18 (c := 0) (by decide) ?_
  refine us_istore hR dX10_markAnew_19 (Nat.le_of_ble_eq_true rfl) ?_
  exact h11026_L21 _ me x0 r17 r18 0 _ T20 G20 _ _ h220 hF20 ho
def h_11027_L16 : Nat → Nat → Int32 → Int32 → Nat → Int32 → Int32 → Nat → Nat → Tx → Option (Nat ⊕ Int32)
  | 0, _, _, _, _, _, _, _, _, _ => none
  | n + 1, l0, l1, l2, l3, l4, l5, bc, bs, T =>
    gd (tK T l0 = 12) <|
    bP (tW T l0 10) fun r1 =>
    gd (tK T r1 = 1) <|
    if (nI (tA T r1).length) ≤ l5 then
      some (.inr l4)
    else
      gd (tK T l0 = 12) <|
      bP (tW T l0 10) fun r4 =>
      gd (tK T r4 = 1) <|
      gd (vi l5 (tA T r4).length) <|
      bS ((tA T r4).getD l5.toNatClampNeg 0) fun r5 =>
      gd (tK T r5 = 2) <|
      gd (tK T r5 = 2) <|
      if (tV T r5 0) = l1 then
        gd (tK T r5 = 2) <|
        bP (tW T r5 1) fun r7 =>
        gd (tK T r7 = 3) <|
        if (tV T r7 0) = l2 then
          gd (tK T r5 = 2) <|
          bP (h_1001 r5 T) fun r9 =>
          h_11027_L16 n l0 l1 l2 l3 (if l4 < r9 then r9 else l4) (l5 + 1) bc bs T
        else
          h_11027_L16 n l0 l1 l2 l3 l4 (l5 + 1) bc bs T
      else
        h_11027_L16 n l0 l1 l2 l3 l4 (l5 + 1) bc bs T
def h_11027 (me : Nat) (x0 : Int32) (x1 : Int32) (T : Tx) : Option (Nat ⊕ Int32) :=
  bXn (h_11037 x0 T) fun r10 =>
  gd (tK T me = 12) <|
  bXn (h_11040 me x1 T) fun r11 =>
  h_11027_L16 100 me x0 x1 r11 (-1) 0 0 0 T
theorem sh_11027 {F : Nat → Prop} {d : Nat} {G : ab_G} {T : Tx} {P : ab_Pq} {X : ab_Xq} (h2 : Rep2 F G T) {me : Nat} {x0 : Int32} {x1 : Int32} {o : (Nat ⊕ Int32)} (ho : h_11027 me x0 x1 T = some o) (h : ∀ v, o = .inr v → P G (some (.int v))) (hX : ∀ e, o = .inl e → X G (exn e)) : ab_Gam (d + 44) 11027 [.ref me, .int x0, .int x1] G P X := by
  have hF : SameF F G G := SameF_rfl
  unfold h_11027 at ho
  refine ab_enter (I := i11027) rfl (Nat.le_of_ble_eq_true rfl) (fun R hR => ?_)
  have h11027_L16 : ∀ (n : Nat) (l0 : Nat) (l1 : Int32) (l2 : Int32) (l3 : Nat) (l4 : Int32) (l5 : Int32) (w6 : Option Value) (bc bs : Nat) (ho : h_11027_L16 n l0 l1 l2 l3 l4 l5 bc bs T = some o), R 16 [some (.ref l0), some (.int l1), some (.int l2), some (.ref l3), some (.int l4), some (.int l5), w6] [] G bc bs := by
    intro n
    induction n with
    | zero => intro l0 l1 l2 l3 l4 l5 w6 bc bs ho; exact absurd ho (by intro hc; cases hc)
    | succ n16 ih16 =>
      intro l0 l1 l2 l3 l4 l5 w6 bc bs ho
      rw [h_11027_L16] at ho
      refine us_iload hR dX10_best_16 rfl ?_
      refine us_aload_n hR dX10_best_18 rfl ?_
      have hg := gd_c ho
      rw [gd_e hg] at ho
      obtain ⟨r1, hr1⟩ := bP_ex ho
      replace ho := bP_go ho hr1
      refine uh_getR h2 hg (by decide) hr1 hR dX10_best_19 fR_11_67 rfl ?_
      have hg := gd_c ho
      rw [gd_e hg] at ho
      refine us_pri5 hR dX10_best_22 (by decide +kernel) rfl (H_lst0 h2 hg) rfl (Nat.le_of_ble_eq_true rfl) (Nat.zero_le _) (Nat.zero_le _) ?_
      refine hl_size h2 hg ?_
      refine us_icmp_ge hR dX10_best_25 81 (by decide) (fun c3 => ?_) (fun c3 => ?_)
      · rw [if_pos c3] at ho
        refine us_iload hR dX10_best_81 rfl ?_
        refine us_iret hR dX10_best_83 rfl rfl ?_
        cases ho
        exact h _ rfl
      · rw [if_neg c3] at ho
        refine us_aload_n hR dX10_best_28 rfl ?_
        have hg := gd_c ho
        rw [gd_e hg] at ho
        obtain ⟨r4, hr4⟩ := bP_ex ho
        replace ho := bP_go ho hr4
        refine uh_getR h2 hg (by decide) hr4 hR dX10_best_29 fR_11_67 rfl ?_
        refine us_iload hR dX10_best_32 rfl ?_
        have hg := gd_c ho
        rw [gd_e hg] at ho
        have hk := hg
        have hg := gd_c ho
        rw [gd_e hg] at ho
        refine us_pri6 hR dX10_best_34 (by decide +kernel) rfl (H_lst0 h2 hk) rfl (Nat.le_of_ble_eq_true rfl) (Nat.zero_le _) (Nat.zero_le _) ?_
        refine hl_get h2 hk hg ?_
        obtain ⟨r5, hr5⟩ : ∃ r, r = (tA T r4).getD l5.toNatClampNeg 0 := ⟨_, rfl⟩
        rw [← hr5]
        rw [← hr5, bS_eq] at ho
        have hg := gd_c ho
        rw [gd_e hg] at ho
        refine us_cast hR dX10_best_37 (by decide +kernel) (H_kind1 h2 hg (by decide)) (by decide) ?_
        refine us_astore hR dX10_best_40 (Nat.le_of_ble_eq_true rfl) ?_
        refine us_aload hR dX10_best_42 rfl ?_
        have hg := gd_c ho
        rw [gd_e hg] at ho
        refine uh_getI (ci := 1) (f := 0) h2 hg (by decide) hR dX10_best_44 fR_11_290 rfl ?_
        refine us_iload_n hR dX10_best_47 rfl ?_
        refine us_icmp_ne hR dX10_best_48 75 (by decide) (fun c6 => ?_) (fun c6 => ?_)
        · rw [if_neg c6] at ho
          refine us_iincC hR dX10_best_75 rfl (Nat.le_of_ble_eq_true rfl) (c := 1) (by decide) ?_
          refine us_goto hR dX10_best_78 16 (by decide) ?_
          exact ih16 l0 l1 l2 l3 l4 (l5 + 1) _ _ _ ho
        · rw [if_pos c6] at ho
          refine us_aload hR dX10_best_51 rfl ?_
          have hg := gd_c ho
          rw [gd_e hg] at ho
          obtain ⟨r7, hr7⟩ := bP_ex ho
          replace ho := bP_go ho hr7
          refine uh_getR h2 hg (by decide) hr7 hR dX10_best_53 fR_11_210 rfl ?_
          have hg := gd_c ho
          rw [gd_e hg] at ho
          refine uh_getI (ci := 2) (f := 0) h2 hg (by decide) hR dX10_best_56 fR_11_214 rfl ?_
          refine us_iload_n hR dX10_best_59 rfl ?_
          refine us_icmp_ne hR dX10_best_60 75 (by decide) (fun c8 => ?_) (fun c8 => ?_)
          · rw [if_neg c8] at ho
            refine us_iincC hR dX10_best_75 rfl (Nat.le_of_ble_eq_true rfl) (c := 1) (by decide) ?_
            refine us_goto hR dX10_best_78 16 (by decide) ?_
            exact ih16 l0 l1 l2 l3 l4 (l5 + 1) _ _ _ ho
          · rw [if_pos c8] at ho
            refine us_iload hR dX10_best_63 rfl ?_
            refine us_aload hR dX10_best_65 rfl ?_
            have hg := gd_c ho
            rw [gd_e hg] at ho
            refine us_callV hR dX10_best_67 (y := 1001) (by decide +kernel) (by decide) (J := i1001) rfl rfl rfl rfl (H_kind1 h2 hg (by decide)) rfl (Nat.le_of_ble_eq_true rfl) (Nat.zero_le _) (Nat.zero_le _) ?_
            obtain ⟨r9, hr9⟩ := bP_ex ho
            replace ho := bP_go ho hr9
            refine sh_1001 h2 hr9 ?_
            refine us_math1 hR dX10_best_70 (by decide +kernel) (Nat.le_of_ble_eq_true rfl) ?_
            refine us_istore hR dX10_best_73 (Nat.le_of_ble_eq_true rfl) ?_
            refine us_iincC hR dX10_best_75 rfl (Nat.le_of_ble_eq_true rfl) (c := 1) (by decide) ?_
            refine us_goto hR dX10_best_78 16 (by decide) ?_
            exact ih16 l0 l1 l2 l3 (if l4 < r9 then r9 else l4) (l5 + 1) _ _ _ ho
  change R _ _ _ _ 2 12
  refine us_iload_n hR dX10_best_0 rfl ?_
  refine us_callS hR dX10_best_1 (y := 11037) (by decide +kernel) (by decide) (J := i11037) rfl rfl rfl rfl (rest := _) (Nat.le_of_ble_eq_true rfl) (Nat.le_of_ble_eq_true rfl) (Nat.le_of_ble_eq_true rfl) ?_
  obtain ⟨q10, hq10⟩ := bXn_ex ho
  rw [hq10] at ho
  refine sh_11037 h2 hq10 (fun r10 hr10 => ?_) (fun e10 hr10 => ?_)
  rotate_left
  · subst hr10
    cases ho
    exact ⟨rfl, hX _ rfl⟩
  subst hr10
  rw [bXn_some] at ho
  change R _ _ _ _ 1 6
  refine us_aload_n hR dX10_best_4 rfl ?_
  refine us_iload_n hR dX10_best_5 rfl ?_
  have hg := gd_c ho
  rw [gd_e hg] at ho
  refine us_callV hR dX10_best_6 (y := 11040) (by decide +kernel) (by decide) (J := i11040) rfl rfl rfl rfl (H_kind1 h2 hg (by decide)) rfl (Nat.le_of_ble_eq_true rfl) (Nat.le_of_ble_eq_true rfl) (Nat.le_of_ble_eq_true rfl) ?_
  obtain ⟨q11, hq11⟩ := bXn_ex ho
  rw [hq11] at ho
  refine sh_11040 h2 hq11 (fun r11 hr11 => ?_) (fun e11 hr11 => ?_)
  rotate_left
  · subst hr11
    cases ho
    exact ⟨rfl, hX _ rfl⟩
  subst hr11
  rw [bXn_some] at ho
  change R _ _ _ _ 0 0
  refine us_astore_n hR dX10_best_9 (Nat.le_of_ble_eq_true rfl) ?_
  refine us_iconstC hR dX10_best_10 (c := (-1)) (by decide) ?_
  refine us_istore hR dX10_best_11 (Nat.le_of_ble_eq_true rfl) ?_
  refine us_iconstC hR dX10_best_13 (c := 0) (by decide) ?_
  refine us_istore hR dX10_best_14 (Nat.le_of_ble_eq_true rfl) ?_
  exact h11027_L16 _ me x0 x1 r11 (-1) 0 _ _ _ ho
def h_11028_L18 : Nat → Nat → Int32 → Int32 → Nat → Int32 → Int32 → Nat → Nat → Tx → Option (Nat ⊕ Int32)
  | 0, _, _, _, _, _, _, _, _, _ => none
  | n + 1, l0, l1, l2, l3, l4, l5, bc, bs, T =>
    gd (tK T l0 = 12) <|
    bP (tW T l0 10) fun r1 =>
    gd (tK T r1 = 1) <|
    if (nI (tA T r1).length) ≤ l5 then
      some (.inr l4)
    else
      gd (tK T l0 = 12) <|
      bP (tW T l0 10) fun r4 =>
      gd (tK T r4 = 1) <|
      gd (vi l5 (tA T r4).length) <|
      bS ((tA T r4).getD l5.toNatClampNeg 0) fun r5 =>
      gd (tK T r5 = 2) <|
      gd (tK T r5 = 2) <|
      bP (tW T r5 1) fun r6 =>
      gd (tK T r6 = 3) <|
      if (tV T r6 0) = l1 then
        gd (tK T r5 = 2) <|
        bP (tW T r5 5) fun r8 =>
        gd (tK T r8 = 7) <|
        h_11028_L18 n l0 l1 l2 l3 (l4 + (xg (tB T r8) l2)) (l5 + 1) bc bs T
      else
        h_11028_L18 n l0 l1 l2 l3 l4 (l5 + 1) bc bs T
def h_11028 (me : Nat) (x0 : Int32) (x1 : Int32) (T : Tx) : Option (Nat ⊕ Int32) :=
  gd (tK T me = 12) <|
  bXn (h_11040 me x0 T) fun r10 =>
  bXn (h_11041 r10 x1 T) fun r11 =>
  h_11028_L18 100 me x0 x1 r10 0 0 0 0 T
theorem sh_11028 {F : Nat → Prop} {d : Nat} {G : ab_G} {T : Tx} {P : ab_Pq} {X : ab_Xq} (h2 : Rep2 F G T) {me : Nat} {x0 : Int32} {x1 : Int32} {o : (Nat ⊕ Int32)} (ho : h_11028 me x0 x1 T = some o) (h : ∀ v, o = .inr v → P G (some (.int v))) (hX : ∀ e, o = .inl e → X G (exn e)) : ab_Gam (d + 44) 11028 [.ref me, .int x0, .int x1] G P X := by
  have hF : SameF F G G := SameF_rfl
  unfold h_11028 at ho
  refine ab_enter (I := i11028) rfl (Nat.le_of_ble_eq_true rfl) (fun R hR => ?_)
  have h11028_L18 : ∀ (n : Nat) (l0 : Nat) (l1 : Int32) (l2 : Int32) (l3 : Nat) (l4 : Int32) (l5 : Int32) (w6 : Option Value) (bc bs : Nat) (ho : h_11028_L18 n l0 l1 l2 l3 l4 l5 bc bs T = some o), R 18 [some (.ref l0), some (.int l1), some (.int l2), some (.ref l3), some (.int l4), some (.int l5), w6] [] G bc bs := by
    intro n
    induction n with
    | zero => intro l0 l1 l2 l3 l4 l5 w6 bc bs ho; exact absurd ho (by intro hc; cases hc)
    | succ n18 ih18 =>
      intro l0 l1 l2 l3 l4 l5 w6 bc bs ho
      rw [h_11028_L18] at ho
      refine us_iload hR dX10_passed_18 rfl ?_
      refine us_aload_n hR dX10_passed_20 rfl ?_
      have hg := gd_c ho
      rw [gd_e hg] at ho
      obtain ⟨r1, hr1⟩ := bP_ex ho
      replace ho := bP_go ho hr1
      refine uh_getR h2 hg (by decide) hr1 hR dX10_passed_21 fR_11_67 rfl ?_
      have hg := gd_c ho
      rw [gd_e hg] at ho
      refine us_pri5 hR dX10_passed_24 (by decide +kernel) rfl (H_lst0 h2 hg) rfl (Nat.le_of_ble_eq_true rfl) (Nat.zero_le _) (Nat.zero_le _) ?_
      refine hl_size h2 hg ?_
      refine us_icmp_ge hR dX10_passed_27 76 (by decide) (fun c3 => ?_) (fun c3 => ?_)
      · rw [if_pos c3] at ho
        refine us_iload hR dX10_passed_76 rfl ?_
        refine us_iret hR dX10_passed_78 rfl rfl ?_
        cases ho
        exact h _ rfl
      · rw [if_neg c3] at ho
        refine us_aload_n hR dX10_passed_30 rfl ?_
        have hg := gd_c ho
        rw [gd_e hg] at ho
        obtain ⟨r4, hr4⟩ := bP_ex ho
        replace ho := bP_go ho hr4
        refine uh_getR h2 hg (by decide) hr4 hR dX10_passed_31 fR_11_67 rfl ?_
        refine us_iload hR dX10_passed_34 rfl ?_
        have hg := gd_c ho
        rw [gd_e hg] at ho
        have hk := hg
        have hg := gd_c ho
        rw [gd_e hg] at ho
        refine us_pri6 hR dX10_passed_36 (by decide +kernel) rfl (H_lst0 h2 hk) rfl (Nat.le_of_ble_eq_true rfl) (Nat.zero_le _) (Nat.zero_le _) ?_
        refine hl_get h2 hk hg ?_
        obtain ⟨r5, hr5⟩ : ∃ r, r = (tA T r4).getD l5.toNatClampNeg 0 := ⟨_, rfl⟩
        rw [← hr5]
        rw [← hr5, bS_eq] at ho
        have hg := gd_c ho
        rw [gd_e hg] at ho
        refine us_cast hR dX10_passed_39 (by decide +kernel) (H_kind1 h2 hg (by decide)) (by decide) ?_
        refine us_astore hR dX10_passed_42 (Nat.le_of_ble_eq_true rfl) ?_
        refine us_aload hR dX10_passed_44 rfl ?_
        have hg := gd_c ho
        rw [gd_e hg] at ho
        obtain ⟨r6, hr6⟩ := bP_ex ho
        replace ho := bP_go ho hr6
        refine uh_getR h2 hg (by decide) hr6 hR dX10_passed_46 fR_11_210 rfl ?_
        have hg := gd_c ho
        rw [gd_e hg] at ho
        refine uh_getI (ci := 2) (f := 0) h2 hg (by decide) hR dX10_passed_49 fR_11_214 rfl ?_
        refine us_iload_n hR dX10_passed_52 rfl ?_
        refine us_icmp_ne hR dX10_passed_53 70 (by decide) (fun c7 => ?_) (fun c7 => ?_)
        · rw [if_neg c7] at ho
          refine us_iincC hR dX10_passed_70 rfl (Nat.le_of_ble_eq_true rfl) (c := 1) (by decide) ?_
          refine us_goto hR dX10_passed_73 18 (by decide) ?_
          exact ih18 l0 l1 l2 l3 l4 (l5 + 1) _ _ _ ho
        · rw [if_pos c7] at ho
          refine us_iload hR dX10_passed_56 rfl ?_
          refine us_aload hR dX10_passed_58 rfl ?_
          have hg := gd_c ho
          rw [gd_e hg] at ho
          obtain ⟨r8, hr8⟩ := bP_ex ho
          replace ho := bP_go ho hr8
          refine uh_getR h2 hg (by decide) hr8 hR dX10_passed_60 fR_11_265 rfl ?_
          refine us_iload_n hR dX10_passed_63 rfl ?_
          have hg := gd_c ho
          rw [gd_e hg] at ho
          refine us_callV hR dX10_passed_64 (y := 6002) (by decide +kernel) (by decide) (J := i6002) rfl rfl rfl rfl (H_row6 h2 hg) rfl (Nat.le_of_ble_eq_true rfl) (Nat.zero_le _) (Nat.zero_le _) ?_
          refine hr_get h2 hg ?_
          refine us_iadd hR dX10_passed_67 ?_
          refine us_istore hR dX10_passed_68 (Nat.le_of_ble_eq_true rfl) ?_
          refine us_iincC hR dX10_passed_70 rfl (Nat.le_of_ble_eq_true rfl) (c := 1) (by decide) ?_
          refine us_goto hR dX10_passed_73 18 (by decide) ?_
          exact ih18 l0 l1 l2 l3 (l4 + (xg (tB T r8) l2)) (l5 + 1) _ _ _ ho
  change R _ _ _ _ 2 12
  refine us_aload_n hR dX10_passed_0 rfl ?_
  refine us_iload_n hR dX10_passed_1 rfl ?_
  have hg := gd_c ho
  rw [gd_e hg] at ho
  refine us_callV hR dX10_passed_2 (y := 11040) (by decide +kernel) (by decide) (J := i11040) rfl rfl rfl rfl (H_kind1 h2 hg (by decide)) rfl (Nat.le_of_ble_eq_true rfl) (Nat.le_of_ble_eq_true rfl) (Nat.le_of_ble_eq_true rfl) ?_
  obtain ⟨q10, hq10⟩ := bXn_ex ho
  rw [hq10] at ho
  refine sh_11040 h2 hq10 (fun r10 hr10 => ?_) (fun e10 hr10 => ?_)
  rotate_left
  · subst hr10
    cases ho
    exact ⟨rfl, hX _ rfl⟩
  subst hr10
  rw [bXn_some] at ho
  change R _ _ _ _ 1 6
  refine us_astore_n hR dX10_passed_5 (Nat.le_of_ble_eq_true rfl) ?_
  refine us_aload_n hR dX10_passed_6 rfl ?_
  refine us_iload_n hR dX10_passed_7 rfl ?_
  refine us_callS hR dX10_passed_8 (y := 11041) (by decide +kernel) (by decide) (J := i11041) rfl rfl rfl rfl (rest := _) (Nat.le_of_ble_eq_true rfl) (Nat.le_of_ble_eq_true rfl) (Nat.le_of_ble_eq_true rfl) ?_
  obtain ⟨q11, hq11⟩ := bXn_ex ho
  rw [hq11] at ho
  refine sh_11041 h2 hq11 (fun r11 hr11 => ?_) (fun e11 hr11 => ?_)
  rotate_left
  · subst hr11
    cases ho
    exact ⟨rfl, hX _ rfl⟩
  subst hr11
  rw [bXn_some] at ho
  change R _ _ _ _ 0 0
  refine us_pop hR dX10_passed_11 rfl ?_
  refine us_iconstC hR dX10_passed_12 (c := 0) (by decide) ?_
  refine us_istore hR dX10_passed_13 (Nat.le_of_ble_eq_true rfl) ?_
  refine us_iconstC hR dX10_passed_15 (c := 0) (by decide) ?_
  refine us_istore hR dX10_passed_16 (Nat.le_of_ble_eq_true rfl) ?_
  exact h11028_L18 _ me x0 x1 r10 0 0 _ _ _ ho
def h_11029 (me : Nat) (x0 : Int32) (T : Tx) : Option (Nat ⊕ Int32) :=
  gd (tK T me = 12) <|
  bXn (h_11039 me x0 T) fun r1 =>
  gd (tK T r1 = 2) <|
  bP (tW T r1 2) fun r2 =>
  gd (tK T r2 = 5) <|
  bP (h_4004 r2 T) fun r3 =>
  some (.inr r3)
theorem sh_11029 {F : Nat → Prop} {d : Nat} {G : ab_G} {T : Tx} {P : ab_Pq} {X : ab_Xq} (h2 : Rep2 F G T) {me : Nat} {x0 : Int32} {o : (Nat ⊕ Int32)} (ho : h_11029 me x0 T = some o) (h : ∀ v, o = .inr v → P G (some (.int v))) (hX : ∀ e, o = .inl e → X G (exn e)) : ab_Gam (d + 43) 11029 [.ref me, .int x0] G P X := by
  have hF : SameF F G G := SameF_rfl
  unfold h_11029 at ho
  refine ab_enter (I := i11029) rfl (Nat.le_of_ble_eq_true rfl) (fun R hR => ?_)
  change R _ _ _ _ 1 6
  refine us_aload_n hR dX10_parts_0 rfl ?_
  refine us_iload_n hR dX10_parts_1 rfl ?_
  have hg := gd_c ho
  rw [gd_e hg] at ho
  refine us_callV hR dX10_parts_2 (y := 11039) (by decide +kernel) (by decide) (J := i11039) rfl rfl rfl rfl (H_kind1 h2 hg (by decide)) rfl (Nat.le_of_ble_eq_true rfl) (Nat.le_of_ble_eq_true rfl) (Nat.le_of_ble_eq_true rfl) ?_
  obtain ⟨q1, hq1⟩ := bXn_ex ho
  rw [hq1] at ho
  refine sh_11039 h2 hq1 (fun r1 hr1 => ?_) (fun e1 hr1 => ?_)
  rotate_left
  · subst hr1
    cases ho
    exact ⟨rfl, hX _ rfl⟩
  subst hr1
  rw [bXn_some] at ho
  change R _ _ _ _ 0 0
  have hg := gd_c ho
  rw [gd_e hg] at ho
  obtain ⟨r2, hr2⟩ := bP_ex ho
  replace ho := bP_go ho hr2
  refine uh_getR h2 hg (by decide) hr2 hR dX10_parts_5 fR_11_254 rfl ?_
  have hg := gd_c ho
  rw [gd_e hg] at ho
  refine us_callV hR dX10_parts_8 (y := 4004) (by decide +kernel) (by decide) (J := i4004) rfl rfl rfl rfl (H_kind1 h2 hg (by decide)) rfl (Nat.le_of_ble_eq_true rfl) (Nat.zero_le _) (Nat.zero_le _) ?_
  obtain ⟨r3, hr3⟩ := bP_ex ho
  replace ho := bP_go ho hr3
  refine sh_4004 h2 hr3 ?_
  refine us_iret hR dX10_parts_11 rfl rfl ?_
  cases ho
  exact h _ rfl
def h_11030 (me : Nat) (x0 : Int32) (x1 : Int32) (T : Tx) : Option (Nat ⊕ Int32) :=
  gd (tK T me = 12) <|
  bXn (h_11038 me x0 T) fun r1 =>
  gd (tK T me = 12) <|
  bXn (h_11038 me x1 T) fun r2 =>
  gd (tK T me = 12) <|
  bXn (h_11046 me x0 x1 T) fun r3 =>
  some (.inr r3)
theorem sh_11030 {F : Nat → Prop} {d : Nat} {G : ab_G} {T : Tx} {P : ab_Pq} {X : ab_Xq} (h2 : Rep2 F G T) {me : Nat} {x0 : Int32} {x1 : Int32} {o : (Nat ⊕ Int32)} (ho : h_11030 me x0 x1 T = some o) (h : ∀ v, o = .inr v → P G (some (.int v))) (hX : ∀ e, o = .inl e → X G (exn e)) : ab_Gam (d + 44) 11030 [.ref me, .int x0, .int x1] G P X := by
  have hF : SameF F G G := SameF_rfl
  unfold h_11030 at ho
  refine ab_enter (I := i11030) rfl (Nat.le_of_ble_eq_true rfl) (fun R hR => ?_)
  change R _ _ _ _ 3 18
  refine us_aload_n hR dX10_common_0 rfl ?_
  refine us_iload_n hR dX10_common_1 rfl ?_
  have hg := gd_c ho
  rw [gd_e hg] at ho
  refine us_callV hR dX10_common_2 (y := 11038) (by decide +kernel) (by decide) (J := i11038) rfl rfl rfl rfl (H_kind1 h2 hg (by decide)) rfl (Nat.le_of_ble_eq_true rfl) (Nat.le_of_ble_eq_true rfl) (Nat.le_of_ble_eq_true rfl) ?_
  obtain ⟨q1, hq1⟩ := bXn_ex ho
  rw [hq1] at ho
  refine sh_11038 h2 hq1 (fun r1 hr1 => ?_) (fun e1 hr1 => ?_)
  rotate_left
  · subst hr1
    cases ho
    exact ⟨rfl, hX _ rfl⟩
  subst hr1
  rw [bXn_some] at ho
  change R _ _ _ _ 2 12
  refine us_aload_n hR dX10_common_5 rfl ?_
  refine us_iload_n hR dX10_common_6 rfl ?_
  have hg := gd_c ho
  rw [gd_e hg] at ho
  refine us_callV hR dX10_common_7 (y := 11038) (by decide +kernel) (by decide) (J := i11038) rfl rfl rfl rfl (H_kind1 h2 hg (by decide)) rfl (Nat.le_of_ble_eq_true rfl) (Nat.le_of_ble_eq_true rfl) (Nat.le_of_ble_eq_true rfl) ?_
  obtain ⟨q2, hq2⟩ := bXn_ex ho
  rw [hq2] at ho
  refine sh_11038 h2 hq2 (fun r2 hr2 => ?_) (fun e2 hr2 => ?_)
  rotate_left
  · subst hr2
    cases ho
    exact ⟨rfl, hX _ rfl⟩
  subst hr2
  rw [bXn_some] at ho
  change R _ _ _ _ 1 6
  refine us_aload_n hR dX10_common_10 rfl ?_
  refine us_iload_n hR dX10_common_11 rfl ?_
  refine us_iload_n hR dX10_common_12 rfl ?_
  have hg := gd_c ho
  rw [gd_e hg] at ho
  refine us_callV hR dX10_common_13 (y := 11046) (by decide +kernel) (by decide) (J := i11046) rfl rfl rfl rfl (H_kind1 h2 hg (by decide)) rfl (Nat.le_of_ble_eq_true rfl) (Nat.le_of_ble_eq_true rfl) (Nat.le_of_ble_eq_true rfl) ?_
  obtain ⟨q3, hq3⟩ := bXn_ex ho
  rw [hq3] at ho
  refine sh_11046 h2 hq3 (fun r3 hr3 => ?_) (fun e3 hr3 => ?_)
  rotate_left
  · subst hr3
    cases ho
    exact ⟨rfl, hX _ rfl⟩
  subst hr3
  rw [bXn_some] at ho
  change R _ _ _ _ 0 0
  refine us_iret hR dX10_common_16 rfl rfl ?_
  cases ho
  exact h _ rfl
def h_11031 (me : Nat) (x0 : Int32) (x1 : Int32) (T : Tx) : Option (Nat ⊕ Int32) :=
  gd (tK T me = 12) <|
  bXn (h_11038 me x0 T) fun r1 =>
  gd (tK T me = 12) <|
  bXn (h_11038 me x1 T) fun r2 =>
  gd (tK T me = 12) <|
  bXn (h_11047 me x0 x1 T) fun r3 =>
  some (.inr r3)
theorem sh_11031 {F : Nat → Prop} {d : Nat} {G : ab_G} {T : Tx} {P : ab_Pq} {X : ab_Xq} (h2 : Rep2 F G T) {me : Nat} {x0 : Int32} {x1 : Int32} {o : (Nat ⊕ Int32)} (ho : h_11031 me x0 x1 T = some o) (h : ∀ v, o = .inr v → P G (some (.int v))) (hX : ∀ e, o = .inl e → X G (exn e)) : ab_Gam (d + 45) 11031 [.ref me, .int x0, .int x1] G P X := by
  have hF : SameF F G G := SameF_rfl
  unfold h_11031 at ho
  refine ab_enter (I := i11031) rfl (Nat.le_of_ble_eq_true rfl) (fun R hR => ?_)
  change R _ _ _ _ 6 36
  refine us_aload_n hR dX10_likeness_0 rfl ?_
  refine us_iload_n hR dX10_likeness_1 rfl ?_
  have hg := gd_c ho
  rw [gd_e hg] at ho
  refine us_callV hR dX10_likeness_2 (y := 11038) (by decide +kernel) (by decide) (J := i11038) rfl rfl rfl rfl (H_kind1 h2 hg (by decide)) rfl (Nat.le_of_ble_eq_true rfl) (Nat.le_of_ble_eq_true rfl) (Nat.le_of_ble_eq_true rfl) ?_
  obtain ⟨q1, hq1⟩ := bXn_ex ho
  rw [hq1] at ho
  refine sh_11038 h2 hq1 (fun r1 hr1 => ?_) (fun e1 hr1 => ?_)
  rotate_left
  · subst hr1
    cases ho
    exact ⟨rfl, hX _ rfl⟩
  subst hr1
  rw [bXn_some] at ho
  change R _ _ _ _ 5 30
  refine us_aload_n hR dX10_likeness_5 rfl ?_
  refine us_iload_n hR dX10_likeness_6 rfl ?_
  have hg := gd_c ho
  rw [gd_e hg] at ho
  refine us_callV hR dX10_likeness_7 (y := 11038) (by decide +kernel) (by decide) (J := i11038) rfl rfl rfl rfl (H_kind1 h2 hg (by decide)) rfl (Nat.le_of_ble_eq_true rfl) (Nat.le_of_ble_eq_true rfl) (Nat.le_of_ble_eq_true rfl) ?_
  obtain ⟨q2, hq2⟩ := bXn_ex ho
  rw [hq2] at ho
  refine sh_11038 h2 hq2 (fun r2 hr2 => ?_) (fun e2 hr2 => ?_)
  rotate_left
  · subst hr2
    cases ho
    exact ⟨rfl, hX _ rfl⟩
  subst hr2
  rw [bXn_some] at ho
  change R _ _ _ _ 4 24
  refine us_aload_n hR dX10_likeness_10 rfl ?_
  refine us_iload_n hR dX10_likeness_11 rfl ?_
  refine us_iload_n hR dX10_likeness_12 rfl ?_
  have hg := gd_c ho
  rw [gd_e hg] at ho
  refine us_callV hR dX10_likeness_13 (y := 11047) (by decide +kernel) (by decide) (J := i11047) rfl rfl rfl rfl (H_kind1 h2 hg (by decide)) rfl (Nat.le_of_ble_eq_true rfl) (Nat.le_of_ble_eq_true rfl) (Nat.le_of_ble_eq_true rfl) ?_
  obtain ⟨q3, hq3⟩ := bXn_ex ho
  rw [hq3] at ho
  refine sh_11047 h2 hq3 (fun r3 hr3 => ?_) (fun e3 hr3 => ?_)
  rotate_left
  · subst hr3
    cases ho
    exact ⟨rfl, hX _ rfl⟩
  subst hr3
  rw [bXn_some] at ho
  change R _ _ _ _ 0 0
  refine us_iret hR dX10_likeness_16 rfl rfl ?_
  cases ho
  exact h _ rfl
def h_11032 (me : Nat) (x0 : Int32) (x1 : Int32) (T : Tx) : Option (Tx × (Nat ⊕ Int32)) :=
  gd (tK T me = 12) <|
  bXp T (h_11039 me x0 T) fun r1 =>
  gd (tK T me = 12) <|
  bXp T (h_11038 me x1 T) fun r2 =>
  gd (tK T r1 = 2) <|
  if (tV T r1 7) = 0 then
    gd (tK T me = 12) <|
    bXp T (h_11048 me x0 x1 T) fun r4 =>
    if r4 = 0 then
      some (T, .inl 3)
    else
      gd (tK T r1 = 2) <|
      bP (h_1001 r1 T) fun r6 =>
      gd (tK T r1 = 2) <|
      bS (tsV T r1 7 1) fun T7 =>
      some (T7, .inr r6)
  else
    some (T, .inl 3)
theorem sh_11032 {F : Nat → Prop} {d : Nat} {G : ab_G} {T : Tx} {P : ab_Pq} {X : ab_Xq} (h2 : Rep2 F G T) {me : Nat} {x0 : Int32} {x1 : Int32} {o : Tx × (Nat ⊕ Int32)} (ho : h_11032 me x0 x1 T = some o) (h : ∀ G1 v, o.2 = .inr v → Rep2 F G1 o.1 → SameF F G G1 → P G1 (some (.int v))) (hX : ∀ G1 e, o.2 = .inl e → Rep2 F G1 o.1 → SameF F G G1 → X G1 (exn e)) : ab_Gam (d + 46) 11032 [.ref me, .int x0, .int x1] G P X := by
  have hF : SameF F G G := SameF_rfl
  unfold h_11032 at ho
  refine ab_enter (I := i11032) rfl (Nat.le_of_ble_eq_true rfl) (fun R hR => ?_)
  change R _ _ _ _ 18 108
  refine us_aload_n hR dX10_accuse_0 rfl ?_
  refine us_iload_n hR dX10_accuse_1 rfl ?_
  have hg := gd_c ho
  rw [gd_e hg] at ho
  refine us_callV hR dX10_accuse_2 (y := 11039) (by decide +kernel) (by decide) (J := i11039) rfl rfl rfl rfl (H_kind1 h2 hg (by decide)) rfl (Nat.le_of_ble_eq_true rfl) (Nat.le_of_ble_eq_true rfl) (Nat.le_of_ble_eq_true rfl) ?_
  obtain ⟨q1, hq1⟩ := bXp_ex ho
  rw [hq1] at ho
  refine sh_11039 h2 hq1 (fun r1 hr1 => ?_) (fun e1 hr1 => ?_)
  rotate_left
  · subst hr1
    cases ho
    exact ⟨rfl, hX _ _ rfl h2 hF⟩
  subst hr1
  rw [bXp_some] at ho
  change R _ _ _ _ 17 102
  refine us_astore_n hR dX10_accuse_5 (Nat.le_of_ble_eq_true rfl) ?_
  refine us_aload_n hR dX10_accuse_6 rfl ?_
  refine us_iload_n hR dX10_accuse_7 rfl ?_
  have hg := gd_c ho
  rw [gd_e hg] at ho
  refine us_callV hR dX10_accuse_8 (y := 11038) (by decide +kernel) (by decide) (J := i11038) rfl rfl rfl rfl (H_kind1 h2 hg (by decide)) rfl (Nat.le_of_ble_eq_true rfl) (Nat.le_of_ble_eq_true rfl) (Nat.le_of_ble_eq_true rfl) ?_
  obtain ⟨q2, hq2⟩ := bXp_ex ho
  rw [hq2] at ho
  refine sh_11038 h2 hq2 (fun r2 hr2 => ?_) (fun e2 hr2 => ?_)
  rotate_left
  · subst hr2
    cases ho
    exact ⟨rfl, hX _ _ rfl h2 hF⟩
  subst hr2
  rw [bXp_some] at ho
  change R _ _ _ _ 16 96
  refine us_aload_n hR dX10_accuse_11 rfl ?_
  have hg := gd_c ho
  rw [gd_e hg] at ho
  refine uh_getI (ci := 1) (f := 7) h2 hg (by decide) hR dX10_accuse_12 fR_11_308 rfl ?_
  refine us_if_ne hR dX10_accuse_15 27 (by decide) (fun c3 => ?_) (fun c3 => ?_)
  · rw [if_neg c3] at ho
    change R _ _ _ _ 16 96
    refine us_throwW (E := "java/lang/IllegalStateException") (t := "the answer cannot be accused") hR dX10_accuse_27 (by decide +kernel) (by decide +kernel) dX10_accuse_30 rfl dX10_accuse_31 (by decide +kernel) dX10_accuse_34 dX10_accuse_37 (by omega) (Nat.le_of_ble_eq_true rfl) (Nat.le_of_ble_eq_true rfl) (Nat.le_of_ble_eq_true rfl) ?_
    cases ho
    exact hX _ _ rfl h2 hF
  · rw [if_pos c3] at ho
    change R _ _ _ _ 16 96
    refine us_aload_n hR dX10_accuse_18 rfl ?_
    refine us_iload_n hR dX10_accuse_19 rfl ?_
    refine us_iload_n hR dX10_accuse_20 rfl ?_
    have hg := gd_c ho
    rw [gd_e hg] at ho
    refine us_callV hR dX10_accuse_21 (y := 11048) (by decide +kernel) (by decide) (J := i11048) rfl rfl rfl rfl (H_kind1 h2 hg (by decide)) rfl (Nat.le_of_ble_eq_true rfl) (Nat.le_of_ble_eq_true rfl) (Nat.le_of_ble_eq_true rfl) ?_
    obtain ⟨q4, hq4⟩ := bXp_ex ho
    rw [hq4] at ho
    refine sh_11048 h2 hq4 (fun r4 hr4 => ?_) (fun e4 hr4 => ?_)
    rotate_left
    · subst hr4
      cases ho
      exact ⟨rfl, hX _ _ rfl h2 hF⟩
    subst hr4
    rw [bXp_some] at ho
    change R _ _ _ _ 4 24
    refine us_if_ne hR dX10_accuse_24 38 (by decide) (fun c5 => ?_) (fun c5 => ?_)
    · rw [if_neg c5] at ho
      change R _ _ _ _ 4 24
      refine us_aload_n hR dX10_accuse_38 rfl ?_
      have hg := gd_c ho
      rw [gd_e hg] at ho
      refine us_callV hR dX10_accuse_39 (y := 1001) (by decide +kernel) (by decide) (J := i1001) rfl rfl rfl rfl (H_kind1 h2 hg (by decide)) rfl (Nat.le_of_ble_eq_true rfl) (Nat.zero_le _) (Nat.zero_le _) ?_
      obtain ⟨r6, hr6⟩ := bP_ex ho
      replace ho := bP_go ho hr6
      refine sh_1001 h2 hr6 ?_
      refine us_istore hR dX10_accuse_42 (Nat.le_of_ble_eq_true rfl) ?_
      refine us_aload_n hR dX10_accuse_44 rfl ?_
      refine us_iconstC hR dX10_accuse_45 (c := 1) (by decide) ?_
      have hg := gd_c ho
      rw [gd_e hg] at ho
      refine uh_putI h2 hg (by decide) hR dX10_accuse_46 fR_11_308 (Or.inl rfl) rfl rfl (fun G7 T7 hs7 h27 hF7 => ?_)
      rw [← hs7, bS_eq] at ho
      have hF7 := hF.tr hF7
      refine us_iload hR dX10_accuse_49 rfl ?_
      refine us_iret hR dX10_accuse_51 rfl rfl ?_
      cases ho
      exact h _ _ rfl h27 hF7
    · rw [if_pos c5] at ho
      change R _ _ _ _ 4 24
      refine us_throwW (E := "java/lang/IllegalStateException") (t := "the answer cannot be accused") hR dX10_accuse_27 (by decide +kernel) (by decide +kernel) dX10_accuse_30 rfl dX10_accuse_31 (by decide +kernel) dX10_accuse_34 dX10_accuse_37 (by omega) (Nat.le_of_ble_eq_true rfl) (Nat.le_of_ble_eq_true rfl) (Nat.le_of_ble_eq_true rfl) ?_
      cases ho
      exact hX _ _ rfl h2 hF
def h_11033 (me : Nat) (x0 : Int32) (T : Tx) : Option (Tx × (Nat ⊕ Int32)) :=
  gd (tK T me = 12) <|
  bXp T (h_11039 me x0 T) fun r1 =>
  gd (tK T r1 = 2) <|
  if (tV T r1 7) = 0 then
    some (T, .inl 3)
  else
    gd (tK T r1 = 2) <|
    bS (tsV T r1 7 0) fun T3 =>
    gd (tK T3 r1 = 2) <|
    bP (h_1001 r1 T3) fun r4 =>
    some (T3, .inr r4)
theorem sh_11033 {F : Nat → Prop} {d : Nat} {G : ab_G} {T : Tx} {P : ab_Pq} {X : ab_Xq} (h2 : Rep2 F G T) {me : Nat} {x0 : Int32} {o : Tx × (Nat ⊕ Int32)} (ho : h_11033 me x0 T = some o) (h : ∀ G1 v, o.2 = .inr v → Rep2 F G1 o.1 → SameF F G G1 → P G1 (some (.int v))) (hX : ∀ G1 e, o.2 = .inl e → Rep2 F G1 o.1 → SameF F G G1 → X G1 (exn e)) : ab_Gam (d + 44) 11033 [.ref me, .int x0] G P X := by
  have hF : SameF F G G := SameF_rfl
  unfold h_11033 at ho
  refine ab_enter (I := i11033) rfl (Nat.le_of_ble_eq_true rfl) (fun R hR => ?_)
  change R _ _ _ _ 2 12
  refine us_aload_n hR dX10_clear_0 rfl ?_
  refine us_iload_n hR dX10_clear_1 rfl ?_
  have hg := gd_c ho
  rw [gd_e hg] at ho
  refine us_callV hR dX10_clear_2 (y := 11039) (by decide +kernel) (by decide) (J := i11039) rfl rfl rfl rfl (H_kind1 h2 hg (by decide)) rfl (Nat.le_of_ble_eq_true rfl) (Nat.le_of_ble_eq_true rfl) (Nat.le_of_ble_eq_true rfl) ?_
  obtain ⟨q1, hq1⟩ := bXp_ex ho
  rw [hq1] at ho
  refine sh_11039 h2 hq1 (fun r1 hr1 => ?_) (fun e1 hr1 => ?_)
  rotate_left
  · subst hr1
    cases ho
    exact ⟨rfl, hX _ _ rfl h2 hF⟩
  subst hr1
  rw [bXp_some] at ho
  change R _ _ _ _ 1 6
  refine us_astore_n hR dX10_clear_5 (Nat.le_of_ble_eq_true rfl) ?_
  refine us_aload_n hR dX10_clear_6 rfl ?_
  have hg := gd_c ho
  rw [gd_e hg] at ho
  refine uh_getI (ci := 1) (f := 7) h2 hg (by decide) hR dX10_clear_7 fR_11_308 rfl ?_
  refine us_if_ne hR dX10_clear_10 24 (by decide) (fun c2 => ?_) (fun c2 => ?_)
  · rw [if_neg c2] at ho
    change R _ _ _ _ 1 6
    refine us_aload_n hR dX10_clear_24 rfl ?_
    refine us_iconstC hR dX10_clear_25 (c := 0) (by decide) ?_
    have hg := gd_c ho
    rw [gd_e hg] at ho
    refine uh_putI h2 hg (by decide) hR dX10_clear_26 fR_11_308 (Or.inl rfl) rfl rfl (fun G3 T3 hs3 h23 hF3 => ?_)
    rw [← hs3, bS_eq] at ho
    have hF3 := hF.tr hF3
    refine us_aload_n hR dX10_clear_29 rfl ?_
    have hg := gd_c ho
    rw [gd_e hg] at ho
    refine us_callV hR dX10_clear_30 (y := 1001) (by decide +kernel) (by decide) (J := i1001) rfl rfl rfl rfl (H_kind1 h23 hg (by decide)) rfl (Nat.le_of_ble_eq_true rfl) (Nat.zero_le _) (Nat.zero_le _) ?_
    obtain ⟨r4, hr4⟩ := bP_ex ho
    replace ho := bP_go ho hr4
    refine sh_1001 h23 hr4 ?_
    refine us_iret hR dX10_clear_33 rfl rfl ?_
    cases ho
    exact h _ _ rfl h23 hF3
  · rw [if_pos c2] at ho
    change R _ _ _ _ 1 6
    refine us_throwW (E := "java/lang/IllegalStateException") (t := "the answer is not struck") hR dX10_clear_13 (by decide +kernel) (by decide +kernel) dX10_clear_16 rfl dX10_clear_17 (by decide +kernel) dX10_clear_20 dX10_clear_23 (by omega) (Nat.le_of_ble_eq_true rfl) (Nat.le_of_ble_eq_true rfl) (Nat.le_of_ble_eq_true rfl) ?_
    cases ho
    exact hX _ _ rfl h2 hF
def h_11034_L7 : Nat → Nat → Int32 → Int32 → Nat → Nat → Tx → Option (Nat ⊕ Int32)
  | 0, _, _, _, _, _, _ => none
  | n + 1, l0, l1, l2, bc, bs, T =>
    if l1 ≤ l2 then
      some (.inr (-1))
    else
      gd (tK T l0 = 12) <|
      bP (tW T l0 10) fun r2 =>
      gd (tK T r2 = 1) <|
      if (nI (tA T r2).length) ≤ l2 then
        some (.inr (-1))
      else
        gd (tK T l0 = 12) <|
        gd ((12 : Nat) ≤ bc ∧ 72 ≤ bs) <|
        bXn (h_11048 l0 l1 l2 T) fun r5 =>
        if r5 = 0 then
          h_11034_L7 n l0 l1 (l2 + 1) (bc - 12) (bs - 72) T
        else
          some (.inr l2)
def h_11034 (me : Nat) (x0 : Int32) (T : Tx) : Option (Nat ⊕ Int32) :=
  gd (tK T me = 12) <|
  bXn (h_11038 me x0 T) fun r7 =>
  h_11034_L7 100 me x0 0 359 2194 T
theorem sh_11034 {F : Nat → Prop} {d : Nat} {G : ab_G} {T : Tx} {P : ab_Pq} {X : ab_Xq} (h2 : Rep2 F G T) {me : Nat} {x0 : Int32} {o : (Nat ⊕ Int32)} (ho : h_11034 me x0 T = some o) (h : ∀ v, o = .inr v → P G (some (.int v))) (hX : ∀ e, o = .inl e → X G (exn e)) : ab_Gam (d + 46) 11034 [.ref me, .int x0] G P X := by
  have hF : SameF F G G := SameF_rfl
  unfold h_11034 at ho
  refine ab_enter (I := i11034) rfl (Nat.le_of_ble_eq_true rfl) (fun R hR => ?_)
  have h11034_L7 : ∀ (n : Nat) (l0 : Nat) (l1 : Int32) (l2 : Int32)  (bc bs : Nat) (ho : h_11034_L7 n l0 l1 l2 bc bs T = some o), R 7 [some (.ref l0), some (.int l1), some (.int l2)] [] G bc bs := by
    intro n
    induction n with
    | zero => intro l0 l1 l2  bc bs ho; exact absurd ho (by intro hc; cases hc)
    | succ n7 ih7 =>
      intro l0 l1 l2  bc bs ho
      rw [h_11034_L7] at ho
      refine us_iload_n hR dX10_doubt_7 rfl ?_
      refine us_iload_n hR dX10_doubt_8 rfl ?_
      refine us_icmp_ge hR dX10_doubt_9 40 (by decide) (fun c1 => ?_) (fun c1 => ?_)
      · rw [if_pos c1] at ho
        refine us_iconstC hR dX10_doubt_40 (c := (-1)) (by decide) ?_
        refine us_iret hR dX10_doubt_41 rfl rfl ?_
        cases ho
        exact h _ rfl
      · rw [if_neg c1] at ho
        refine us_iload_n hR dX10_doubt_12 rfl ?_
        refine us_aload_n hR dX10_doubt_13 rfl ?_
        have hg := gd_c ho
        rw [gd_e hg] at ho
        obtain ⟨r2, hr2⟩ := bP_ex ho
        replace ho := bP_go ho hr2
        refine uh_getR h2 hg (by decide) hr2 hR dX10_doubt_14 fR_11_67 rfl ?_
        have hg := gd_c ho
        rw [gd_e hg] at ho
        refine us_pri5 hR dX10_doubt_17 (by decide +kernel) rfl (H_lst0 h2 hg) rfl (Nat.le_of_ble_eq_true rfl) (Nat.zero_le _) (Nat.zero_le _) ?_
        refine hl_size h2 hg ?_
        refine us_icmp_ge hR dX10_doubt_20 40 (by decide) (fun c4 => ?_) (fun c4 => ?_)
        · rw [if_pos c4] at ho
          refine us_iconstC hR dX10_doubt_40 (c := (-1)) (by decide) ?_
          refine us_iret hR dX10_doubt_41 rfl rfl ?_
          cases ho
          exact h _ rfl
        · rw [if_neg c4] at ho
          refine us_aload_n hR dX10_doubt_23 rfl ?_
          refine us_iload_n hR dX10_doubt_24 rfl ?_
          refine us_iload_n hR dX10_doubt_25 rfl ?_
          have hg := gd_c ho
          rw [gd_e hg] at ho
          have hb := gd_c ho
          rw [gd_e hb] at ho
          refine us_callV hR dX10_doubt_26 (y := 11048) (by decide +kernel) (by decide) (J := i11048) rfl rfl rfl rfl (H_kind1 h2 hg (by decide)) rfl (Nat.le_of_ble_eq_true rfl) hb.1 hb.2 ?_
          obtain ⟨q5, hq5⟩ := bXn_ex ho
          rw [hq5] at ho
          refine sh_11048 h2 hq5 (fun r5 hr5 => ?_) (fun e5 hr5 => ?_)
          rotate_left
          · subst hr5
            cases ho
            exact ⟨rfl, hX _ rfl⟩
          subst hr5
          rw [bXn_some] at ho
          refine us_if_eq hR dX10_doubt_29 34 (by decide) (fun c6 => ?_) (fun c6 => ?_)
          · rw [if_pos c6] at ho
            refine us_iincC hR dX10_doubt_34 rfl (Nat.le_of_ble_eq_true rfl) (c := 1) (by decide) ?_
            refine us_goto hR dX10_doubt_37 7 (by decide) ?_
            exact ih7 l0 l1 (l2 + 1)  _ _ ho
          · rw [if_neg c6] at ho
            refine us_iload_n hR dX10_doubt_32 rfl ?_
            refine us_iret hR dX10_doubt_33 rfl rfl ?_
            cases ho
            exact h _ rfl
  change R _ _ _ _ 360 2200
  refine us_aload_n hR dX10_doubt_0 rfl ?_
  refine us_iload_n hR dX10_doubt_1 rfl ?_
  have hg := gd_c ho
  rw [gd_e hg] at ho
  refine us_callV hR dX10_doubt_2 (y := 11038) (by decide +kernel) (by decide) (J := i11038) rfl rfl rfl rfl (H_kind1 h2 hg (by decide)) rfl (Nat.le_of_ble_eq_true rfl) (Nat.le_of_ble_eq_true rfl) (Nat.le_of_ble_eq_true rfl) ?_
  obtain ⟨q7, hq7⟩ := bXn_ex ho
  rw [hq7] at ho
  refine sh_11038 h2 hq7 (fun r7 hr7 => ?_) (fun e7 hr7 => ?_)
  rotate_left
  · subst hr7
    cases ho
    exact ⟨rfl, hX _ rfl⟩
  subst hr7
  rw [bXn_some] at ho
  change R _ _ _ _ 359 2194
  refine us_iconstC hR dX10_doubt_5 (c := 0) (by decide) ?_
  refine us_istore_n hR dX10_doubt_6 (Nat.le_of_ble_eq_true rfl) ?_
  exact h11034_L7 _ me x0 0  _ _ ho
end
