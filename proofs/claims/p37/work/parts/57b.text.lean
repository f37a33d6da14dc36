/-! the law: how it writes drawn programs -/
noncomputable section
def h_13001 (x0 : Int32) (x1 : Int32) (T : Tx) : Option Int32 :=
  gd (¬ (x1 : Int32) = 0) <|
  some (((x0 &&& 2147483647) % x1))
theorem sh_13001 {F : Nat → Prop} {d : Nat} {G : ab_G} {T : Tx} {P : ab_Pq} {X : ab_Xq} (h2 : Rep2 F G T) {x0 : Int32} {x1 : Int32} {o : Int32} (ho : h_13001 x0 x1 T = some o) (h : P G (some (.int o))) : ab_Gam (d + 1) 13001 [.int x0, .int x1] G P X := by
  have hF : SameF F G G := SameF_rfl
  unfold h_13001 at ho
  refine ab_enter (I := i13001) rfl (Nat.le_of_ble_eq_true rfl) (fun R hR => ?_)
  refine us_iload_n hR dL_low_0 rfl ?_
  refine us_ldc hR dL_low_1 (v := 2147483647) (by decide +kernel) ?_
  refine us_iand hR dL_low_3 ?_
  refine us_iload_n hR dL_low_4 rfl ?_
  have hg := gd_c ho
  rw [gd_e hg] at ho
  refine us_irem hR dL_low_5 hg ?_
  refine us_iret hR dL_low_6 rfl rfl ?_
  cases ho
  exact h
def h_13028 (x0 : Nat) (x1 : Int32) (T : Tx) : Option (Tx × Int32) :=
  gd (tK T x0 = 12) <|
  bP (h_11004 x0 T) fun r1 =>
  if r1 = 300 then
    gd (tK T x0 = 12) <|
    bO (h_13002 x0 x1.toInt64 T) fun T7 r7 =>
    if r7 = (-1) then
      some (T7, 1)
    else
      some (T7, 0)
  else
    gd (tK T x0 = 12) <|
    bO (h_13002 x0 x1.toInt64 T) fun T3 r3 =>
    if r3 = (r1 + 1) then
      gd (tK T3 x0 = 12) <|
      bP (h_13004 x0 r1 T3) fun r5 =>
      if r5 = x1 then
        some (T3, 1)
      else
        some (T3, 0)
    else
      some (T3, 0)
theorem sh_13028 {F : Nat → Prop} {d : Nat} {G : ab_G} {T : Tx} {P : ab_Pq} {X : ab_Xq} (h2 : Rep2 F G T) {x0 : Nat} {x1 : Int32} {o : Tx × Int32} (ho : h_13028 x0 x1 T = some o) (h : ∀ G1, (o.2 = 0 ∨ o.2 = 1) → Rep2 F G1 o.1 → SameF F G G1 → P G1 (some (.int o.2))) : ab_Gam (d + 12) 13028 [.ref x0, .int x1] G P X := by
  have hF : SameF F G G := SameF_rfl
  unfold h_13028 at ho
  refine ab_enter (I := i13028) rfl (Nat.le_of_ble_eq_true rfl) (fun R hR => ?_)
  change R _ _ _ _ 2 12
  refine us_aload_n hR dL_sign_0 rfl ?_
  have hg := gd_c ho
  rw [gd_e hg] at ho
  refine us_callV hR dL_sign_1 (y := 11004) (by decide +kernel) (by decide) (J := i11004) rfl rfl rfl rfl (H_kind1 h2 hg (by decide)) rfl (Nat.le_of_ble_eq_true rfl) (Nat.zero_le _) (Nat.zero_le _) ?_
  obtain ⟨r1, hr1⟩ := bP_ex ho
  replace ho := bP_go ho hr1
  refine sh_11004 h2 hr1 ?_
  refine us_istore_n hR dL_sign_4 (Nat.le_of_ble_eq_true rfl) ?_
  refine us_iload_n hR dL_sign_5 rfl ?_
  refine us_sipushC hR dL_sign_6 (c := 300) (by decide) ?_
  refine us_icmp_ne hR dL_sign_9 30 (by decide) (fun c2 => ?_) (fun c2 => ?_)
  · rw [if_neg c2] at ho
    change R _ _ _ _ 2 12
    refine us_aload_n hR dL_sign_30 rfl ?_
    refine us_iload_n hR dL_sign_31 rfl ?_
    refine us_i2l hR dL_sign_32 ?_
    have hg := gd_c ho
    rw [gd_e hg] at ho
    have hme := hg
    refine us_callS hR dL_sign_33 (y := 13002) (by decide +kernel) (by decide) (J := i13002) rfl rfl rfl rfl (rest := _) (Nat.le_of_ble_eq_true rfl) (Nat.le_of_ble_eq_true rfl) (Nat.le_of_ble_eq_true rfl) ?_
    obtain ⟨q3, hs3⟩ := bO_ex ho
    obtain ⟨T3, r3⟩ := q3
    replace ho := bO_go ho hs3
    refine sh_13002 h2 hme hs3 (fun G3 h23 hF3 => ?_)
    have hF3 := hF.tr hF3
    change R _ _ _ _ 1 6
    refine us_iload_n hR dL_sign_36 rfl ?_
    refine us_iconstC hR dL_sign_37 (c := 1) (by decide) ?_
    refine us_iadd hR dL_sign_38 ?_
    refine us_icmp_ne hR dL_sign_39 55 (by decide) (fun c4 => ?_) (fun c4 => ?_)
    · rw [if_neg c4] at ho
      change R _ _ _ _ 1 6
      refine us_iconstC hR dL_sign_55 (c := 0) (by decide) ?_
      refine us_iret hR dL_sign_56 rfl (nar01 (Or.inl rfl)) ?_
      cases ho
      exact h _ (Or.inl rfl) h23 hF3
    · rw [if_pos c4] at ho
      change R _ _ _ _ 1 6
      refine us_aload_n hR dL_sign_42 rfl ?_
      refine us_iload_n hR dL_sign_43 rfl ?_
      have hg := gd_c ho
      rw [gd_e hg] at ho
      have hme := hg
      refine us_callS hR dL_sign_44 (y := 13004) (by decide +kernel) (by decide) (J := i13004) rfl rfl rfl rfl (rest := _) (Nat.le_of_ble_eq_true rfl) (Nat.le_of_ble_eq_true rfl) (Nat.le_of_ble_eq_true rfl) ?_
      obtain ⟨r5, hr5⟩ := bP_ex ho
      replace ho := bP_go ho hr5
      refine sh_13004 h23 hme hr5 ?_
      change R _ _ _ _ 0 0
      refine us_iload_n hR dL_sign_47 rfl ?_
      refine us_icmp_ne hR dL_sign_48 55 (by decide) (fun c6 => ?_) (fun c6 => ?_)
      · rw [if_neg c6] at ho
        change R _ _ _ _ 0 0
        refine us_iconstC hR dL_sign_55 (c := 0) (by decide) ?_
        refine us_iret hR dL_sign_56 rfl (nar01 (Or.inl rfl)) ?_
        cases ho
        exact h _ (Or.inl rfl) h23 hF3
      · rw [if_pos c6] at ho
        change R _ _ _ _ 0 0
        refine us_iconstC hR dL_sign_51 (c := 1) (by decide) ?_
        refine us_goto hR dL_sign_52 56 (by decide) ?_
        refine us_iret hR dL_sign_56 rfl (nar01 (Or.inr rfl)) ?_
        cases ho
        exact h _ (Or.inr rfl) h23 hF3
  · rw [if_pos c2] at ho
    change R _ _ _ _ 2 12
    refine us_aload_n hR dL_sign_12 rfl ?_
    refine us_iload_n hR dL_sign_13 rfl ?_
    refine us_i2l hR dL_sign_14 ?_
    have hg := gd_c ho
    rw [gd_e hg] at ho
    have hme := hg
    refine us_callS hR dL_sign_15 (y := 13002) (by decide +kernel) (by decide) (J := i13002) rfl rfl rfl rfl (rest := _) (Nat.le_of_ble_eq_true rfl) (Nat.le_of_ble_eq_true rfl) (Nat.le_of_ble_eq_true rfl) ?_
    obtain ⟨q7, hs7⟩ := bO_ex ho
    obtain ⟨T7, r7⟩ := q7
    replace ho := bO_go ho hs7
    refine sh_13002 h2 hme hs7 (fun G7 h27 hF7 => ?_)
    have hF7 := hF.tr hF7
    change R _ _ _ _ 1 6
    refine us_iconstC hR dL_sign_18 (c := (-1)) (by decide) ?_
    refine us_icmp_ne hR dL_sign_19 26 (by decide) (fun c8 => ?_) (fun c8 => ?_)
    · rw [if_neg c8] at ho
      change R _ _ _ _ 1 6
      refine us_iconstC hR dL_sign_26 (c := 0) (by decide) ?_
      refine us_goto hR dL_sign_27 56 (by decide) ?_
      refine us_iret hR dL_sign_56 rfl (nar01 (Or.inl rfl)) ?_
      cases ho
      exact h _ (Or.inl rfl) h27 hF7
    · rw [if_pos c8] at ho
      change R _ _ _ _ 1 6
      refine us_iconstC hR dL_sign_22 (c := 1) (by decide) ?_
      refine us_goto hR dL_sign_23 56 (by decide) ?_
      refine us_iret hR dL_sign_56 rfl (nar01 (Or.inr rfl)) ?_
      cases ho
      exact h _ (Or.inr rfl) h27 hF7
def h_13029_J96 (l0 : Nat) (l1 : Int32) (l2 : Int32) (l3 : Int32) (bc bs : Nat) (T : Tx) : Option (Tx × Int32) :=
  if l3 = 0 then
    some (T, 0)
  else
    bP (h_13001 (l1 >>> (3 &&& 31)) 4 T) fun r2 =>
    gd ((2 : Nat) ≤ bc ∧ 12 ≤ bs) <|
    bO (h_13028 l0 (97 + r2) T) fun T3 r3 =>
    if r3 = 0 then
      some (T3, 0)
    else
      some (T3, 1)
def h_13029_J53 (l0 : Nat) (l1 : Int32) (l2 : Int32) (l3 : Int32) (bc bs : Nat) (T : Tx) : Option (Tx × Int32) :=
  if l2 = 1 then
    if l3 = 0 then
      some (T, 0)
    else
      gd ((2 : Nat) ≤ bc ∧ 12 ≤ bs) <|
      bO (h_13028 l0 105 T) fun T18 r18 =>
      if r18 = 0 then
        some (T18, 0)
      else
        gd ((2 : Nat) ≤ (bc - 2) ∧ 12 ≤ (bs - 12)) <|
        bO (h_13028 l0 110 T18) fun T20 r20 =>
        if r20 = 0 then
          some (T20, 0)
        else
          some (T20, 1)
  else
    if l2 = 2 then
      h_13029_J96 l0 l1 l2 l3 bc bs T
    else
      if l2 = 3 then
        h_13029_J96 l0 l1 l2 l3 bc bs T
      else
        if l3 = 0 then
          some (T, 0)
        else
          bP (h_13001 (l1 >>> (3 &&& 31)) 10 T) fun r9 =>
          gd ((2 : Nat) ≤ bc ∧ 12 ≤ bs) <|
          bO (h_13028 l0 (48 + r9) T) fun T10 r10 =>
          if r10 = 0 then
            some (T10, 0)
          else
            bP (h_13001 (l1 >>> (7 &&& 31)) 4 T10) fun r12 =>
            if 0 < r12 then
              some (T10, 1)
            else
              bP (h_13001 (l1 >>> (9 &&& 31)) 10 T10) fun r14 =>
              gd ((2 : Nat) ≤ (bc - 2) ∧ 12 ≤ (bs - 12)) <|
              bO (h_13028 l0 (48 + r14) T10) fun T15 r15 =>
              if r15 = 0 then
                some (T15, 0)
              else
                some (T15, 1)
def h_13029 (x0 : Nat) (x1 : Int32) (T : Tx) : Option (Tx × Int32) :=
  bP (h_13001 x1 8 T) fun r22 =>
  if r22 = 5 then
    bO (h_13028 x0 45 T) fun T28 r28 =>
    h_13029_J53 x0 x1 r22 r28 6 36 T28
  else
    if r22 = 6 then
      bO (h_13028 x0 35 T) fun T27 r27 =>
      h_13029_J53 x0 x1 r22 r27 6 36 T27
    else
      if r22 = 7 then
        bO (h_13028 x0 33 T) fun T26 r26 =>
        h_13029_J53 x0 x1 r22 r26 6 36 T26
      else
        h_13029_J53 x0 x1 r22 1 8 48 T
theorem sh_13029 {F : Nat → Prop} {d : Nat} {G : ab_G} {T : Tx} {P : ab_Pq} {X : ab_Xq} (h2 : Rep2 F G T) {x0 : Nat} {x1 : Int32} {o : Tx × Int32} (ho : h_13029 x0 x1 T = some o) (h : ∀ G1, (o.2 = 0 ∨ o.2 = 1) → Rep2 F G1 o.1 → SameF F G G1 → P G1 (some (.int o.2))) : ab_Gam (d + 13) 13029 [.ref x0, .int x1] G P X := by
  have hF : SameF F G G := SameF_rfl
  unfold h_13029 at ho
  refine ab_enter (I := i13029) rfl (Nat.le_of_ble_eq_true rfl) (fun R hR => ?_)
  have h13029_J96 : ∀ (l0 : Nat) (l1 : Int32) (l2 : Int32) (l3 : Int32)  (T : Tx) (Ga : ab_G) (bc bs : Nat) (h2 : Rep2 F Ga T) (hFa : SameF F G Ga) (ho : h_13029_J96 l0 l1 l2 l3 bc bs T = some o), R 96 [some (.ref l0), some (.int l1), some (.int l2), some (.int l3)] [] Ga bc bs := by
    intro l0 l1 l2 l3  T Ga bc bs h2 hFa ho
    unfold h_13029_J96 at ho
    refine us_iload_n hR dL_operand_96 rfl ?_
    refine us_if_eq hR dL_operand_97 121 (by decide) (fun c1 => ?_) (fun c1 => ?_)
    · rw [if_pos c1] at ho
      refine us_iconstC hR dL_operand_121 (c := 0) (by decide) ?_
      refine us_iret hR dL_operand_122 rfl (nar01 (Or.inl rfl)) ?_
      cases ho
      exact h _ (Or.inl rfl) h2 hFa
    · rw [if_neg c1] at ho
      refine us_aload_n hR dL_operand_100 rfl ?_
      refine us_bipushC hR dL_operand_101 (c := 97) (by decide) ?_
      refine us_iload_n hR dL_operand_103 rfl ?_
      refine us_iconstC hR dL_operand_104 (c := 3) (by decide) ?_
      refine us_ishr hR dL_operand_105 ?_
      refine us_iconstC hR dL_operand_106 (c := 4) (by decide) ?_
      refine us_callS hR dL_operand_107 (y := 13001) (by decide +kernel) (by decide) (J := i13001) rfl rfl rfl rfl (rest := _) (Nat.le_of_ble_eq_true rfl) (Nat.zero_le _) (Nat.zero_le _) ?_
      obtain ⟨r2, hr2⟩ := bP_ex ho
      replace ho := bP_go ho hr2
      refine sh_13001 h2 hr2 ?_
      refine us_iadd hR dL_operand_110 ?_
      have hb := gd_c ho
      rw [gd_e hb] at ho
      refine us_callS hR dL_operand_111 (y := 13028) (by decide +kernel) (by decide) (J := i13028) rfl rfl rfl rfl (rest := _) (Nat.le_of_ble_eq_true rfl) hb.1 hb.2 ?_
      obtain ⟨q3, hs3⟩ := bO_ex ho
      obtain ⟨T3, r3⟩ := q3
      replace ho := bO_go ho hs3
      refine sh_13028 h2 hs3 (fun G3 hb3 h23 hF3 => ?_)
      have hF3 := hFa.tr hF3
      refine us_if_eq hR dL_operand_114 121 (by decide) (fun c4 => ?_) (fun c4 => ?_)
      · rw [if_pos c4] at ho
        refine us_iconstC hR dL_operand_121 (c := 0) (by decide) ?_
        refine us_iret hR dL_operand_122 rfl (nar01 (Or.inl rfl)) ?_
        cases ho
        exact h _ (Or.inl rfl) h23 hF3
      · rw [if_neg c4] at ho
        refine us_iconstC hR dL_operand_117 (c := 1) (by decide) ?_
        refine us_goto hR dL_operand_118 122 (by decide) ?_
        refine us_iret hR dL_operand_122 rfl (nar01 (Or.inr rfl)) ?_
        cases ho
        exact h _ (Or.inr rfl) h23 hF3
  have h13029_J53 : ∀ (l0 : Nat) (l1 : Int32) (l2 : Int32) (l3 : Int32)  (T : Tx) (Ga : ab_G) (bc bs : Nat) (h2 : Rep2 F Ga T) (hFa : SameF F G Ga) (ho : h_13029_J53 l0 l1 l2 l3 bc bs T = some o), R 53 [some (.ref l0), some (.int l1), some (.int l2), some (.int l3)] [] Ga bc bs := by
    intro l0 l1 l2 l3  T Ga bc bs h2 hFa ho
    unfold h_13029_J53 at ho
    refine us_iload_n hR dL_operand_53 rfl ?_
    refine us_iconstC hR dL_operand_54 (c := 1) (by decide) ?_
    refine us_icmp_ne hR dL_operand_55 86 (by decide) (fun c5 => ?_) (fun c5 => ?_)
    · rw [if_neg c5] at ho
      refine us_iload_n hR dL_operand_86 rfl ?_
      refine us_iconstC hR dL_operand_87 (c := 2) (by decide) ?_
      refine us_icmp_eq hR dL_operand_88 96 (by decide) (fun c6 => ?_) (fun c6 => ?_)
      · rw [if_pos c6] at ho
        exact h13029_J96 l0 l1 l2 l3  T Ga _ _ h2 hFa ho
      · rw [if_neg c6] at ho
        refine us_iload_n hR dL_operand_91 rfl ?_
        refine us_iconstC hR dL_operand_92 (c := 3) (by decide) ?_
        refine us_icmp_ne hR dL_operand_93 123 (by decide) (fun c7 => ?_) (fun c7 => ?_)
        · rw [if_neg c7] at ho
          refine us_iload_n hR dL_operand_123 rfl ?_
          refine us_if_eq hR dL_operand_124 179 (by decide) (fun c8 => ?_) (fun c8 => ?_)
          · rw [if_pos c8] at ho
            refine us_iconstC hR dL_operand_179 (c := 0) (by decide) ?_
            refine us_iret hR dL_operand_180 rfl (nar01 (Or.inl rfl)) ?_
            cases ho
            exact h _ (Or.inl rfl) h2 hFa
          · rw [if_neg c8] at ho
            refine us_aload_n hR dL_operand_127 rfl ?_
            refine us_bipushC hR dL_operand_128 (c := 48) (by decide) ?_
            refine us_iload_n hR dL_operand_130 rfl ?_
            refine us_iconstC hR dL_operand_131 (c := 3) (by decide) ?_
            refine us_ishr hR dL_operand_132 ?_
            refine us_bipushC hR dL_operand_133 (c := 10) (by decide) ?_
            refine us_callS hR dL_operand_135 (y := 13001) (by decide +kernel) (by decide) (J := i13001) rfl rfl rfl rfl (rest := _) (Nat.le_of_ble_eq_true rfl) (Nat.zero_le _) (Nat.zero_le _) ?_
            obtain ⟨r9, hr9⟩ := bP_ex ho
            replace ho := bP_go ho hr9
            refine sh_13001 h2 hr9 ?_
            refine us_iadd hR dL_operand_138 ?_
            have hb := gd_c ho
            rw [gd_e hb] at ho
            refine us_callS hR dL_operand_139 (y := 13028) (by decide +kernel) (by decide) (J := i13028) rfl rfl rfl rfl (rest := _) (Nat.le_of_ble_eq_true rfl) hb.1 hb.2 ?_
            obtain ⟨q10, hs10⟩ := bO_ex ho
            obtain ⟨T10, r10⟩ := q10
            replace ho := bO_go ho hs10
            refine sh_13028 h2 hs10 (fun G10 hb10 h210 hF10 => ?_)
            have hF10 := hFa.tr hF10
            refine us_if_eq hR dL_operand_142 179 (by decide) (fun c11 => ?_) (fun c11 => ?_)
            · rw [if_pos c11] at ho
              refine us_iconstC hR dL_operand_179 (c := 0) (by decide) ?_
              refine us_iret hR dL_operand_180 rfl (nar01 (Or.inl rfl)) ?_
              cases ho
              exact h _ (Or.inl rfl) h210 hF10
            · rw [if_neg c11] at ho
              refine us_iload_n hR dL_operand_145 rfl ?_
              refine us_bipushC hR dL_operand_146 (c := 7) (by decide) ?_
              refine us_ishr hR dL_operand_148 ?_
              refine us_iconstC hR dL_operand_149 (c := 4) (by decide) ?_
              refine us_callS hR dL_operand_150 (y := 13001) (by decide +kernel) (by decide) (J := i13001) rfl rfl rfl rfl (rest := _) (Nat.le_of_ble_eq_true rfl) (Nat.zero_le _) (Nat.zero_le _) ?_
              obtain ⟨r12, hr12⟩ := bP_ex ho
              replace ho := bP_go ho hr12
              refine sh_13001 h210 hr12 ?_
              refine us_if_gt hR dL_operand_153 175 (by decide) (fun c13 => ?_) (fun c13 => ?_)
              · rw [if_pos c13] at ho
                refine us_iconstC hR dL_operand_175 (c := 1) (by decide) ?_
                refine us_goto hR dL_operand_176 180 (by decide) ?_
                refine us_iret hR dL_operand_180 rfl (nar01 (Or.inr rfl)) ?_
                cases ho
                exact h _ (Or.inr rfl) h210 hF10
              · rw [if_neg c13] at ho
                refine us_aload_n hR dL_operand_156 rfl ?_
                refine us_bipushC hR dL_operand_157 (c := 48) (by decide) ?_
                refine us_iload_n hR dL_operand_159 rfl ?_
                refine us_bipushC hR dL_operand_160 (c := 9) (by decide) ?_
                refine us_ishr hR dL_operand_162 ?_
                refine us_bipushC hR dL_operand_163 (c := 10) (by decide) ?_
                refine us_callS hR dL_operand_165 (y := 13001) (by decide +kernel) (by decide) (J := i13001) rfl rfl rfl rfl (rest := _) (Nat.le_of_ble_eq_true rfl) (Nat.zero_le _) (Nat.zero_le _) ?_
                obtain ⟨r14, hr14⟩ := bP_ex ho
                replace ho := bP_go ho hr14
                refine sh_13001 h210 hr14 ?_
                refine us_iadd hR dL_operand_168 ?_
                have hb := gd_c ho
                rw [gd_e hb] at ho
                refine us_callS hR dL_operand_169 (y := 13028) (by decide +kernel) (by decide) (J := i13028) rfl rfl rfl rfl (rest := _) (Nat.le_of_ble_eq_true rfl) hb.1 hb.2 ?_
                obtain ⟨q15, hs15⟩ := bO_ex ho
                obtain ⟨T15, r15⟩ := q15
                replace ho := bO_go ho hs15
                refine sh_13028 h210 hs15 (fun G15 hb15 h215 hF15 => ?_)
                have hF15 := hF10.tr hF15
                refine us_if_eq hR dL_operand_172 179 (by decide) (fun c16 => ?_) (fun c16 => ?_)
                · rw [if_pos c16] at ho
                  refine us_iconstC hR dL_operand_179 (c := 0) (by decide) ?_
                  refine us_iret hR dL_operand_180 rfl (nar01 (Or.inl rfl)) ?_
                  cases ho
                  exact h _ (Or.inl rfl) h215 hF15
                · rw [if_neg c16] at ho
                  refine us_iconstC hR dL_operand_175 (c := 1) (by decide) ?_
                  refine us_goto hR dL_operand_176 180 (by decide) ?_
                  refine us_iret hR dL_operand_180 rfl (nar01 (Or.inr rfl)) ?_
                  cases ho
                  exact h _ (Or.inr rfl) h215 hF15
        · rw [if_pos c7] at ho
          exact h13029_J96 l0 l1 l2 l3  T Ga _ _ h2 hFa ho
    · rw [if_pos c5] at ho
      refine us_iload_n hR dL_operand_58 rfl ?_
      refine us_if_eq hR dL_operand_59 84 (by decide) (fun c17 => ?_) (fun c17 => ?_)
      · rw [if_pos c17] at ho
        refine us_iconstC hR dL_operand_84 (c := 0) (by decide) ?_
        refine us_iret hR dL_operand_85 rfl (nar01 (Or.inl rfl)) ?_
        cases ho
        exact h _ (Or.inl rfl) h2 hFa
      · rw [if_neg c17] at ho
        refine us_aload_n hR dL_operand_62 rfl ?_
        refine us_bipushC hR dL_operand_63 (c := 105) (by decide) ?_
        have hb := gd_c ho
        rw [gd_e hb] at ho
        refine us_callS hR dL_operand_65 (y := 13028) (by decide +kernel) (by decide) (J := i13028) rfl rfl rfl rfl (rest := _) (Nat.le_of_ble_eq_true rfl) hb.1 hb.2 ?_
        obtain ⟨q18, hs18⟩ := bO_ex ho
        obtain ⟨T18, r18⟩ := q18
        replace ho := bO_go ho hs18
        refine sh_13028 h2 hs18 (fun G18 hb18 h218 hF18 => ?_)
        have hF18 := hFa.tr hF18
        refine us_if_eq hR dL_operand_68 84 (by decide) (fun c19 => ?_) (fun c19 => ?_)
        · rw [if_pos c19] at ho
          refine us_iconstC hR dL_operand_84 (c := 0) (by decide) ?_
          refine us_iret hR dL_operand_85 rfl (nar01 (Or.inl rfl)) ?_
          cases ho
          exact h _ (Or.inl rfl) h218 hF18
        · rw [if_neg c19] at ho
          refine us_aload_n hR dL_operand_71 rfl ?_
          refine us_bipushC hR dL_operand_72 (c := 110) (by decide) ?_
          have hb := gd_c ho
          rw [gd_e hb] at ho
          refine us_callS hR dL_operand_74 (y := 13028) (by decide +kernel) (by decide) (J := i13028) rfl rfl rfl rfl (rest := _) (Nat.le_of_ble_eq_true rfl) hb.1 hb.2 ?_
          obtain ⟨q20, hs20⟩ := bO_ex ho
          obtain ⟨T20, r20⟩ := q20
          replace ho := bO_go ho hs20
          refine sh_13028 h218 hs20 (fun G20 hb20 h220 hF20 => ?_)
          have hF20 := hF18.tr hF20
          refine us_if_eq hR dL_operand_77 84 (by decide) (fun c21 => ?_) (fun c21 => ?_)
          · rw [if_pos c21] at ho
            refine us_iconstC hR dL_operand_84 (c := 0) (by decide) ?_
            refine us_iret hR dL_operand_85 rfl (nar01 (Or.inl rfl)) ?_
            cases ho
            exact h _ (Or.inl rfl) h220 hF20
          · rw [if_neg c21] at ho
            refine us_iconstC hR dL_operand_80 (c := 1) (by decide) ?_
            refine us_goto hR dL_operand_81 85 (by decide) ?_
            refine us_iret hR dL_operand_85 rfl (nar01 (Or.inr rfl)) ?_
            cases ho
            exact h _ (Or.inr rfl) h220 hF20
  change R _ _ _ _ 8 48
  refine us_iload_n hR dL_operand_0 rfl ?_
  refine us_bipushC hR dL_operand_1 (c := 8) (by decide) ?_
  refine us_callS hR dL_operand_3 (y := 13001) (by decide +kernel) (by decide) (J := i13001) rfl rfl rfl rfl (rest := _) (Nat.le_of_ble_eq_true rfl) (Nat.zero_le _) (Nat.zero_le _) ?_
  obtain ⟨r22, hr22⟩ := bP_ex ho
  replace ho := bP_go ho hr22
  refine sh_13001 h2 hr22 ?_
  refine us_istore_n hR dL_operand_6 (Nat.le_of_ble_eq_true rfl) ?_
  refine us_iconstC hR dL_operand_7 (c := 1) (by decide) ?_
  refine us_istore_n hR dL_operand_8 (Nat.le_of_ble_eq_true rfl) ?_
  refine us_iload_n hR dL_operand_9 rfl ?_
  refine us_iconstC hR dL_operand_10 (c := 5) (by decide) ?_
  refine us_icmp_ne hR dL_operand_11 24 (by decide) (fun c23 => ?_) (fun c23 => ?_)
  · rw [if_neg c23] at ho
    change R _ _ _ _ 8 48
    refine us_iload_n hR dL_operand_24 rfl ?_
    refine us_bipushC hR dL_operand_25 (c := 6) (by decide) ?_
    refine us_icmp_ne hR dL_operand_27 40 (by decide) (fun c24 => ?_) (fun c24 => ?_)
    · rw [if_neg c24] at ho
      change R _ _ _ _ 8 48
      refine us_iload_n hR dL_operand_40 rfl ?_
      refine us_bipushC hR dL_operand_41 (c := 7) (by decide) ?_
      refine us_icmp_ne hR dL_operand_43 53 (by decide) (fun c25 => ?_) (fun c25 => ?_)
      · rw [if_neg c25] at ho
        exact h13029_J53 x0 x1 r22 1  T G _ _ h2 hF ho
      · rw [if_pos c25] at ho
        change R _ _ _ _ 8 48
        refine us_aload_n hR dL_operand_46 rfl ?_
        refine us_bipushC hR dL_operand_47 (c := 33) (by decide) ?_
        refine us_callS hR dL_operand_49 (y := 13028) (by decide +kernel) (by decide) (J := i13028) rfl rfl rfl rfl (rest := _) (Nat.le_of_ble_eq_true rfl) (Nat.le_of_ble_eq_true rfl) (Nat.le_of_ble_eq_true rfl) ?_
        obtain ⟨q26, hs26⟩ := bO_ex ho
        obtain ⟨T26, r26⟩ := q26
        replace ho := bO_go ho hs26
        refine sh_13028 h2 hs26 (fun G26 hb26 h226 hF26 => ?_)
        have hF26 := hF.tr hF26
        change R _ _ _ _ 6 36
        refine us_istore_n hR dL_operand_52 (Nat.le_of_ble_eq_true rfl) ?_
        exact h13029_J53 x0 x1 r22 r26  T26 G26 _ _ h226 hF26 ho
    · rw [if_pos c24] at ho
      change R _ _ _ _ 8 48
      refine us_aload_n hR dL_operand_30 rfl ?_
      refine us_bipushC hR dL_operand_31 (c := 35) (by decide) ?_
      refine us_callS hR dL_operand_33 (y := 13028) (by decide +kernel) (by decide) (J := i13028) rfl rfl rfl rfl (rest := _) (Nat.le_of_ble_eq_true rfl) (Nat.le_of_ble_eq_true rfl) (Nat.le_of_ble_eq_true rfl) ?_
      obtain ⟨q27, hs27⟩ := bO_ex ho
      obtain ⟨T27, r27⟩ := q27
      replace ho := bO_go ho hs27
      refine sh_13028 h2 hs27 (fun G27 hb27 h227 hF27 => ?_)
      have hF27 := hF.tr hF27
      change R _ _ _ _ 6 36
      refine us_istore_n hR dL_operand_36 (Nat.le_of_ble_eq_true rfl) ?_
      refine us_goto hR dL_operand_37 53 (by decide) ?_
      exact h13029_J53 x0 x1 r22 r27  T27 G27 _ _ h227 hF27 ho
  · rw [if_pos c23] at ho
    change R _ _ _ _ 8 48
    refine us_aload_n hR dL_operand_14 rfl ?_
    refine us_bipushC hR dL_operand_15 (c := 45) (by decide) ?_
    refine us_callS hR dL_operand_17 (y := 13028) (by decide +kernel) (by decide) (J := i13028) rfl rfl rfl rfl (rest := _) (Nat.le_of_ble_eq_true rfl) (Nat.le_of_ble_eq_true rfl) (Nat.le_of_ble_eq_true rfl) ?_
    obtain ⟨q28, hs28⟩ := bO_ex ho
    obtain ⟨T28, r28⟩ := q28
    replace ho := bO_go ho hs28
    refine sh_13028 h2 hs28 (fun G28 hb28 h228 hF28 => ?_)
    have hF28 := hF.tr hF28
    change R _ _ _ _ 6 36
    refine us_istore_n hR dL_operand_20 (Nat.le_of_ble_eq_true rfl) ?_
    refine us_goto hR dL_operand_21 53 (by decide) ?_
    exact h13029_J53 x0 x1 r22 r28  T28 G28 _ _ h228 hF28 ho
def h_13030_J161 (l0 : Nat) (l1 : Int32) (l2 : Int32) (l3 : Int32) (l4 : Int32) (bc bs : Nat) (T : Tx) : Option (Tx × Int32) :=
  if l2 ≤ 10 then
    gd (l4 = 0 ∨ l4 = 1) <|
    some (T, l4)
  else
    if l4 = 0 then
      some (T, 0)
    else
      gd ((2 : Nat) ≤ bc ∧ 12 ≤ bs) <|
      bO (h_13028 l0 l3 T) fun T3 r3 =>
      if r3 = 0 then
        some (T3, 0)
      else
        some (T3, 1)
def h_13030_J139 (l0 : Nat) (l1 : Int32) (l2 : Int32) (l3 : Int32) (l4 : Int32) (bc bs : Nat) (T : Tx) : Option (Tx × Int32) :=
  if l4 = 0 then
    some (T, 0)
  else
    gd ((2 : Nat) ≤ bc ∧ 12 ≤ bs) <|
    bO (h_13028 l0 61 T) fun T6 r6 =>
    if r6 = 0 then
      some (T6, 0)
    else
      some (T6, 1)
def h_13030_J113 (l0 : Nat) (l1 : Int32) (l2 : Int32) (k0 : Int32) (bc bs : Nat) (T : Tx) : Option (Tx × Int32) :=
  gd ((2 : Nat) ≤ bc ∧ 12 ≤ bs) <|
  bO (h_13028 l0 k0 T) fun T8 r8 =>
  if l2 = 6 then
    h_13030_J139 l0 l1 l2 k0 r8 (bc - 2) (bs - 12) T8
  else
    if l2 ≤ 7 then
      h_13030_J161 l0 l1 l2 k0 r8 (bc - 2) (bs - 12) T8
    else
      if 11 ≤ l2 then
        h_13030_J161 l0 l1 l2 k0 r8 (bc - 2) (bs - 12) T8
      else
        h_13030_J139 l0 l1 l2 k0 r8 (bc - 2) (bs - 12) T8
def h_13030 (x0 : Nat) (x1 : Int32) (T : Tx) : Option (Tx × Int32) :=
  bP (h_13001 x1 13 T) fun r12 =>
  if r12 = 0 then
    h_13030_J113 x0 x1 r12 43 4 24 T
  else
    if r12 = 1 then
      h_13030_J113 x0 x1 r12 45 4 24 T
    else
      if r12 = 2 then
        h_13030_J113 x0 x1 r12 42 4 24 T
      else
        if r12 = 3 then
          h_13030_J113 x0 x1 r12 47 4 24 T
        else
          if r12 = 4 then
            h_13030_J113 x0 x1 r12 37 4 24 T
          else
            if 7 ≤ r12 then
              if 9 ≤ r12 then
                if r12 = 9 then
                  h_13030_J113 x0 x1 r12 61 4 24 T
                else
                  if r12 = 10 then
                    h_13030_J113 x0 x1 r12 33 4 24 T
                  else
                    if r12 = 11 then
                      h_13030_J113 x0 x1 r12 38 4 24 T
                    else
                      h_13030_J113 x0 x1 r12 124 4 24 T
              else
                h_13030_J113 x0 x1 r12 62 4 24 T
            else
              h_13030_J113 x0 x1 r12 60 4 24 T
theorem sh_13030 {F : Nat → Prop} {d : Nat} {G : ab_G} {T : Tx} {P : ab_Pq} {X : ab_Xq} (h2 : Rep2 F G T) {x0 : Nat} {x1 : Int32} {o : Tx × Int32} (ho : h_13030 x0 x1 T = some o) (h : ∀ G1, (o.2 = 0 ∨ o.2 = 1) → Rep2 F G1 o.1 → SameF F G G1 → P G1 (some (.int o.2))) : ab_Gam (d + 13) 13030 [.ref x0, .int x1] G P X := by
  have hF : SameF F G G := SameF_rfl
  unfold h_13030 at ho
  refine ab_enter (I := i13030) rfl (Nat.le_of_ble_eq_true rfl) (fun R hR => ?_)
  have h13030_J161 : ∀ (l0 : Nat) (l1 : Int32) (l2 : Int32) (l3 : Int32) (l4 : Int32)  (T : Tx) (Ga : ab_G) (bc bs : Nat) (h2 : Rep2 F Ga T) (hFa : SameF F G Ga) (ho : h_13030_J161 l0 l1 l2 l3 l4 bc bs T = some o), R 161 [some (.ref l0), some (.int l1), some (.int l2), some (.int l3), some (.int l4)] [] Ga bc bs := by
    intro l0 l1 l2 l3 l4  T Ga bc bs h2 hFa ho
    unfold h_13030_J161 at ho
    refine us_iload_n hR dL_marks_161 rfl ?_
    refine us_bipushC hR dL_marks_162 (c := 10) (by decide) ?_
    refine us_icmp_le hR dL_marks_164 188 (by decide) (fun c1 => ?_) (fun c1 => ?_)
    · rw [if_pos c1] at ho
      refine us_iload hR dL_marks_188 rfl ?_
      have hg := gd_c ho
      rw [gd_e hg] at ho
      refine us_iret hR dL_marks_190 rfl (nar01 hg) ?_
      cases ho
      exact h _ hg h2 hFa
    · rw [if_neg c1] at ho
      refine us_iload hR dL_marks_167 rfl ?_
      refine us_if_eq hR dL_marks_169 184 (by decide) (fun c2 => ?_) (fun c2 => ?_)
      · rw [if_pos c2] at ho
        refine us_iconstC hR dL_marks_184 (c := 0) (by decide) ?_
        refine us_goto hR dL_marks_185 190 (by decide) ?_
        refine us_iret hR dL_marks_190 rfl (nar01 (Or.inl rfl)) ?_
        cases ho
        exact h _ (Or.inl rfl) h2 hFa
      · rw [if_neg c2] at ho
        refine us_aload_n hR dL_marks_172 rfl ?_
        refine us_iload_n hR dL_marks_173 rfl ?_
        have hb := gd_c ho
        rw [gd_e hb] at ho
        refine us_callS hR dL_marks_174 (y := 13028) (by decide +kernel) (by decide) (J := i13028) rfl rfl rfl rfl (rest := _) (Nat.le_of_ble_eq_true rfl) hb.1 hb.2 ?_
        obtain ⟨q3, hs3⟩ := bO_ex ho
        obtain ⟨T3, r3⟩ := q3
        replace ho := bO_go ho hs3
        refine sh_13028 h2 hs3 (fun G3 hb3 h23 hF3 => ?_)
        have hF3 := hFa.tr hF3
        refine us_if_eq hR dL_marks_177 184 (by decide) (fun c4 => ?_) (fun c4 => ?_)
        · rw [if_pos c4] at ho
          refine us_iconstC hR dL_marks_184 (c := 0) (by decide) ?_
          refine us_goto hR dL_marks_185 190 (by decide) ?_
          refine us_iret hR dL_marks_190 rfl (nar01 (Or.inl rfl)) ?_
          cases ho
          exact h _ (Or.inl rfl) h23 hF3
        · rw [if_neg c4] at ho
          refine us_iconstC hR dL_marks_180 (c := 1) (by decide) ?_
          refine us_goto hR dL_marks_181 190 (by decide) ?_
          refine us_iret hR dL_marks_190 rfl (nar01 (Or.inr rfl)) ?_
          cases ho
          exact h _ (Or.inr rfl) h23 hF3
  have h13030_J139 : ∀ (l0 : Nat) (l1 : Int32) (l2 : Int32) (l3 : Int32) (l4 : Int32)  (T : Tx) (Ga : ab_G) (bc bs : Nat) (h2 : Rep2 F Ga T) (hFa : SameF F G Ga) (ho : h_13030_J139 l0 l1 l2 l3 l4 bc bs T = some o), R 139 [some (.ref l0), some (.int l1), some (.int l2), some (.int l3), some (.int l4)] [] Ga bc bs := by
    intro l0 l1 l2 l3 l4  T Ga bc bs h2 hFa ho
    unfold h_13030_J139 at ho
    refine us_iload hR dL_marks_139 rfl ?_
    refine us_if_eq hR dL_marks_141 157 (by decide) (fun c5 => ?_) (fun c5 => ?_)
    · rw [if_pos c5] at ho
      refine us_iconstC hR dL_marks_157 (c := 0) (by decide) ?_
      refine us_goto hR dL_marks_158 190 (by decide) ?_
      refine us_iret hR dL_marks_190 rfl (nar01 (Or.inl rfl)) ?_
      cases ho
      exact h _ (Or.inl rfl) h2 hFa
    · rw [if_neg c5] at ho
      refine us_aload_n hR dL_marks_144 rfl ?_
      refine us_bipushC hR dL_marks_145 (c := 61) (by decide) ?_
      have hb := gd_c ho
      rw [gd_e hb] at ho
      refine us_callS hR dL_marks_147 (y := 13028) (by decide +kernel) (by decide) (J := i13028) rfl rfl rfl rfl (rest := _) (Nat.le_of_ble_eq_true rfl) hb.1 hb.2 ?_
      obtain ⟨q6, hs6⟩ := bO_ex ho
      obtain ⟨T6, r6⟩ := q6
      replace ho := bO_go ho hs6
      refine sh_13028 h2 hs6 (fun G6 hb6 h26 hF6 => ?_)
      have hF6 := hFa.tr hF6
      refine us_if_eq hR dL_marks_150 157 (by decide) (fun c7 => ?_) (fun c7 => ?_)
      · rw [if_pos c7] at ho
        refine us_iconstC hR dL_marks_157 (c := 0) (by decide) ?_
        refine us_goto hR dL_marks_158 190 (by decide) ?_
        refine us_iret hR dL_marks_190 rfl (nar01 (Or.inl rfl)) ?_
        cases ho
        exact h _ (Or.inl rfl) h26 hF6
      · rw [if_neg c7] at ho
        refine us_iconstC hR dL_marks_153 (c := 1) (by decide) ?_
        refine us_goto hR dL_marks_154 190 (by decide) ?_
        refine us_iret hR dL_marks_190 rfl (nar01 (Or.inr rfl)) ?_
        cases ho
        exact h _ (Or.inr rfl) h26 hF6
  have h13030_J113 : ∀ (l0 : Nat) (l1 : Int32) (l2 : Int32) (k0 : Int32)  (T : Tx) (Ga : ab_G) (bc bs : Nat) (h2 : Rep2 F Ga T) (hFa : SameF F G Ga) (ho : h_13030_J113 l0 l1 l2 k0 bc bs T = some o), R 113 [some (.ref l0), some (.int l1), some (.int l2), none, none] [.int k0] Ga bc bs := by
    intro l0 l1 l2 k0  T Ga bc bs h2 hFa ho
    unfold h_13030_J113 at ho
    refine us_istore_n hR dL_marks_113 (Nat.le_of_ble_eq_true rfl) ?_
    refine us_aload_n hR dL_marks_114 rfl ?_
    refine us_iload_n hR dL_marks_115 rfl ?_
    have hb := gd_c ho
    rw [gd_e hb] at ho
    refine us_callS hR dL_marks_116 (y := 13028) (by decide +kernel) (by decide) (J := i13028) rfl rfl rfl rfl (rest := _) (Nat.le_of_ble_eq_true rfl) hb.1 hb.2 ?_
    obtain ⟨q8, hs8⟩ := bO_ex ho
    obtain ⟨T8, r8⟩ := q8
    replace ho := bO_go ho hs8
    refine sh_13028 h2 hs8 (fun G8 hb8 h28 hF8 => ?_)
    have hF8 := hFa.tr hF8
    refine us_istore hR dL_marks_119 (Nat.le_of_ble_eq_true rfl) ?_
    refine us_iload_n hR dL_marks_121 rfl ?_
    refine us_bipushC hR dL_marks_122 (c := 6) (by decide) ?_
    refine us_icmp_eq hR dL_marks_124 139 (by decide) (fun c9 => ?_) (fun c9 => ?_)
    · rw [if_pos c9] at ho
      exact h13030_J139 l0 l1 l2 k0 r8  T8 G8 _ _ h28 hF8 ho
    · rw [if_neg c9] at ho
      refine us_iload_n hR dL_marks_127 rfl ?_
      refine us_bipushC hR dL_marks_128 (c := 7) (by decide) ?_
      refine us_icmp_le hR dL_marks_130 161 (by decide) (fun c10 => ?_) (fun c10 => ?_)
      · rw [if_pos c10] at ho
        exact h13030_J161 l0 l1 l2 k0 r8  T8 G8 _ _ h28 hF8 ho
      · rw [if_neg c10] at ho
        refine us_iload_n hR dL_marks_133 rfl ?_
        refine us_bipushC hR dL_marks_134 (c := 11) (by decide) ?_
        refine us_icmp_ge hR dL_marks_136 161 (by decide) (fun c11 => ?_) (fun c11 => ?_)
        · rw [if_pos c11] at ho
          exact h13030_J161 l0 l1 l2 k0 r8  T8 G8 _ _ h28 hF8 ho
        · rw [if_neg c11] at ho
          exact h13030_J139 l0 l1 l2 k0 r8  T8 G8 _ _ h28 hF8 ho
  change R _ _ _ _ 4 24
  refine us_iload_n hR dL_marks_0 rfl ?_
  refine us_bipushC hR dL_marks_1 (c := 13) (by decide) ?_
  refine us_callS hR dL_marks_3 (y := 13001) (by decide +kernel) (by decide) (J := i13001) rfl rfl rfl rfl (rest := _) (Nat.le_of_ble_eq_true rfl) (Nat.zero_le _) (Nat.zero_le _) ?_
  obtain ⟨r12, hr12⟩ := bP_ex ho
  replace ho := bP_go ho hr12
  refine sh_13001 h2 hr12 ?_
  refine us_istore_n hR dL_marks_6 (Nat.le_of_ble_eq_true rfl) ?_
  refine us_iload_n hR dL_marks_7 rfl ?_
  refine us_if_ne hR dL_marks_8 16 (by decide) (fun c13 => ?_) (fun c13 => ?_)
  · rw [if_neg c13] at ho
    change R _ _ _ _ 4 24
    refine us_iload_n hR dL_marks_16 rfl ?_
    refine us_iconstC hR dL_marks_17 (c := 1) (by decide) ?_
    refine us_icmp_ne hR dL_marks_18 26 (by decide) (fun c14 => ?_) (fun c14 => ?_)
    · rw [if_neg c14] at ho
      change R _ _ _ _ 4 24
      refine us_iload_n hR dL_marks_26 rfl ?_
      refine us_iconstC hR dL_marks_27 (c := 2) (by decide) ?_
      refine us_icmp_ne hR dL_marks_28 36 (by decide) (fun c15 => ?_) (fun c15 => ?_)
      · rw [if_neg c15] at ho
        change R _ _ _ _ 4 24
        refine us_iload_n hR dL_marks_36 rfl ?_
        refine us_iconstC hR dL_marks_37 (c := 3) (by decide) ?_
        refine us_icmp_ne hR dL_marks_38 46 (by decide) (fun c16 => ?_) (fun c16 => ?_)
        · rw [if_neg c16] at ho
          change R _ _ _ _ 4 24
          refine us_iload_n hR dL_marks_46 rfl ?_
          refine us_iconstC hR dL_marks_47 (c := 4) (by decide) ?_
          refine us_icmp_ne hR dL_marks_48 56 (by decide) (fun c17 => ?_) (fun c17 => ?_)
          · rw [if_neg c17] at ho
            change R _ _ _ _ 4 24
            refine us_iload_n hR dL_marks_56 rfl ?_
            refine us_bipushC hR dL_marks_57 (c := 7) (by decide) ?_
            refine us_icmp_ge hR dL_marks_59 67 (by decide) (fun c18 => ?_) (fun c18 => ?_)
            · rw [if_pos c18] at ho
              change R _ _ _ _ 4 24
              refine us_iload_n hR dL_marks_67 rfl ?_
              refine us_bipushC hR dL_marks_68 (c := 9) (by decide) ?_
              refine us_icmp_ge hR dL_marks_70 78 (by decide) (fun c19 => ?_) (fun c19 => ?_)
              · rw [if_pos c19] at ho
                change R _ _ _ _ 4 24
                refine us_iload_n hR dL_marks_78 rfl ?_
                refine us_bipushC hR dL_marks_79 (c := 9) (by decide) ?_
                refine us_icmp_ne hR dL_marks_81 89 (by decide) (fun c20 => ?_) (fun c20 => ?_)
                · rw [if_neg c20] at ho
                  change R _ _ _ _ 4 24
                  refine us_iload_n hR dL_marks_89 rfl ?_
                  refine us_bipushC hR dL_marks_90 (c := 10) (by decide) ?_
                  refine us_icmp_ne hR dL_marks_92 100 (by decide) (fun c21 => ?_) (fun c21 => ?_)
                  · rw [if_neg c21] at ho
                    change R _ _ _ _ 4 24
                    refine us_iload_n hR dL_marks_100 rfl ?_
                    refine us_bipushC hR dL_marks_101 (c := 11) (by decide) ?_
                    refine us_icmp_ne hR dL_marks_103 111 (by decide) (fun c22 => ?_) (fun c22 => ?_)
                    · rw [if_neg c22] at ho
                      change R _ _ _ _ 4 24
                      refine us_bipushC hR dL_marks_111 (c := 124) (by decide) ?_
                      exact h13030_J113 x0 x1 r12 124  T G _ _ h2 hF ho
                    · rw [if_pos c22] at ho
                      change R _ _ _ _ 4 24
                      refine us_bipushC hR dL_marks_106 (c := 38) (by decide) ?_
                      refine us_goto hR dL_marks_108 113 (by decide) ?_
                      exact h13030_J113 x0 x1 r12 38  T G _ _ h2 hF ho
                  · rw [if_pos c21] at ho
                    change R _ _ _ _ 4 24
                    refine us_bipushC hR dL_marks_95 (c := 33) (by decide) ?_
                    refine us_goto hR dL_marks_97 113 (by decide) ?_
                    exact h13030_J113 x0 x1 r12 33  T G _ _ h2 hF ho
                · rw [if_pos c20] at ho
                  change R _ _ _ _ 4 24
                  refine us_bipushC hR dL_marks_84 (c := 61) (by decide) ?_
                  refine us_goto hR dL_marks_86 113 (by decide) ?_
                  exact h13030_J113 x0 x1 r12 61  T G _ _ h2 hF ho
              · rw [if_neg c19] at ho
                change R _ _ _ _ 4 24
                refine us_bipushC hR dL_marks_73 (c := 62) (by decide) ?_
                refine us_goto hR dL_marks_75 113 (by decide) ?_
                exact h13030_J113 x0 x1 r12 62  T G _ _ h2 hF ho
            · rw [if_neg c18] at ho
              change R _ _ _ _ 4 24
              refine us_bipushC hR dL_marks_62 (c := 60) (by decide) ?_
              refine us_goto hR dL_marks_64 113 (by decide) ?_
              exact h13030_J113 x0 x1 r12 60  T G _ _ h2 hF ho
          · rw [if_pos c17] at ho
            change R _ _ _ _ 4 24
            refine us_bipushC hR dL_marks_51 (c := 37) (by decide) ?_
            refine us_goto hR dL_marks_53 113 (by decide) ?_
            exact h13030_J113 x0 x1 r12 37  T G _ _ h2 hF ho
        · rw [if_pos c16] at ho
          change R _ _ _ _ 4 24
          refine us_bipushC hR dL_marks_41 (c := 47) (by decide) ?_
          refine us_goto hR dL_marks_43 113 (by decide) ?_
          exact h13030_J113 x0 x1 r12 47  T G _ _ h2 hF ho
      · rw [if_pos c15] at ho
        change R _ _ _ _ 4 24
        refine us_bipushC hR dL_marks_31 (c := 42) (by decide) ?_
        refine us_goto hR dL_marks_33 113 (by decide) ?_
        exact h13030_J113 x0 x1 r12 42  T G _ _ h2 hF ho
    · rw [if_pos c14] at ho
      change R _ _ _ _ 4 24
      refine us_bipushC hR dL_marks_21 (c := 45) (by decide) ?_
      refine us_goto hR dL_marks_23 113 (by decide) ?_
      exact h13030_J113 x0 x1 r12 45  T G _ _ h2 hF ho
  · rw [if_pos c13] at ho
    change R _ _ _ _ 4 24
    refine us_bipushC hR dL_marks_11 (c := 43) (by decide) ?_
    refine us_goto hR dL_marks_13 113 (by decide) ?_
    exact h13030_J113 x0 x1 r12 43  T G _ _ h2 hF ho
def h_13031_L17 : Nat → Nat → Int32 → Int32 → Int32 → Int32 → Nat → Nat → Tx → Option (Tx × Int32)
  | 0, _, _, _, _, _, _, _, _ => none
  | n + 1, l0, l1, l2, l3, l4, bc, bs, T =>
    if l3 ≤ l4 then
      gd (l2 = 0 ∨ l2 = 1) <|
      some (T, l2)
    else
      if l2 = 0 then
        h_13031_L17 n l0 l1 0 l3 (l4 + 1) bc bs T
      else
        gd ((4 : Nat) ≤ bc ∧ 24 ≤ bs) <|
        bO (h_13030 l0 (l1 >>> ((5 + (3 * l4)) &&& 31)) T) fun T3 r3 =>
        if r3 = 0 then
          h_13031_L17 n l0 l1 0 l3 (l4 + 1) (bc - 4) (bs - 24) T3
        else
          gd ((8 : Nat) ≤ (bc - 4) ∧ 48 ≤ (bs - 24)) <|
          bO (h_13029 l0 (l1 >>> ((7 + (4 * l4)) &&& 31)) T3) fun T5 r5 =>
          if r5 = 0 then
            h_13031_L17 n l0 l1 0 l3 (l4 + 1) ((bc - 4) - 8) ((bs - 24) - 48) T5
          else
            h_13031_L17 n l0 l1 1 l3 (l4 + 1) ((bc - 4) - 8) ((bs - 24) - 48) T5
def h_13031 (x0 : Nat) (x1 : Int32) (T : Tx) : Option (Tx × Int32) :=
  bO (h_13029 x0 (x1 >>> (3 &&& 31)) T) fun T7 r7 =>
  bP (h_13001 x1 3 T7) fun r8 =>
  h_13031_L17 10 x0 x1 r7 r8 0 24 144 T7
theorem sh_13031 {F : Nat → Prop} {d : Nat} {G : ab_G} {T : Tx} {P : ab_Pq} {X : ab_Xq} (h2 : Rep2 F G T) {x0 : Nat} {x1 : Int32} {o : Tx × Int32} (ho : h_13031 x0 x1 T = some o) (h : ∀ G1, (o.2 = 0 ∨ o.2 = 1) → Rep2 F G1 o.1 → SameF F G G1 → P G1 (some (.int o.2))) : ab_Gam (d + 14) 13031 [.ref x0, .int x1] G P X := by
  have hF : SameF F G G := SameF_rfl
  unfold h_13031 at ho
  refine ab_enter (I := i13031) rfl (Nat.le_of_ble_eq_true rfl) (fun R hR => ?_)
  have h13031_L17 : ∀ (n : Nat) (l0 : Nat) (l1 : Int32) (l2 : Int32) (l3 : Int32) (l4 : Int32)  (T : Tx) (Ga : ab_G) (bc bs : Nat) (h2 : Rep2 F Ga T) (hFa : SameF F G Ga) (ho : h_13031_L17 n l0 l1 l2 l3 l4 bc bs T = some o), R 17 [some (.ref l0), some (.int l1), some (.int l2), some (.int l3), some (.int l4)] [] Ga bc bs := by
    intro n
    induction n with
    | zero => intro l0 l1 l2 l3 l4  T Ga bc bs h2 hFa ho; exact absurd ho (by intro hc; cases hc)
    | succ n17 ih17 =>
      intro l0 l1 l2 l3 l4  T Ga bc bs h2 hFa ho
      rw [h_13031_L17] at ho
      refine us_iload hR dL_value_17 rfl ?_
      refine us_iload_n hR dL_value_19 rfl ?_
      refine us_icmp_ge hR dL_value_20 70 (by decide) (fun c1 => ?_) (fun c1 => ?_)
      · rw [if_pos c1] at ho
        refine us_iload_n hR dL_value_70 rfl ?_
        have hg := gd_c ho
        rw [gd_e hg] at ho
        refine us_iret hR dL_value_71 rfl (nar01 hg) ?_
        cases ho
        exact h _ hg h2 hFa
      · rw [if_neg c1] at ho
        refine us_iload_n hR dL_value_23 rfl ?_
        refine us_if_eq hR dL_value_24 62 (by decide) (fun c2 => ?_) (fun c2 => ?_)
        · rw [if_pos c2] at ho
          refine us_iconstC hR dL_value_62 (c := 0) (by decide) ?_
          refine us_istore_n hR dL_value_63 (Nat.le_of_ble_eq_true rfl) ?_
          refine us_iincC hR dL_value_64 rfl (Nat.le_of_ble_eq_true rfl) (c := 1) (by decide) ?_
          refine us_goto hR dL_value_67 17 (by decide) ?_
          exact ih17 l0 l1 0 l3 (l4 + 1)  T Ga _ _ h2 hFa ho
        · rw [if_neg c2] at ho
          refine us_aload_n hR dL_value_27 rfl ?_
          refine us_iload_n hR dL_value_28 rfl ?_
          refine us_iconstC hR dL_value_29 (c := 5) (by decide) ?_
          refine us_iconstC hR dL_value_30 (c := 3) (by decide) ?_
          refine us_iload hR dL_value_31 rfl ?_
          refine us_imul hR dL_value_33 ?_
          refine us_iadd hR dL_value_34 ?_
          refine us_ishr hR dL_value_35 ?_
          have hb := gd_c ho
          rw [gd_e hb] at ho
          refine us_callS hR dL_value_36 (y := 13030) (by decide +kernel) (by decide) (J := i13030) rfl rfl rfl rfl (rest := _) (Nat.le_of_ble_eq_true rfl) hb.1 hb.2 ?_
          obtain ⟨q3, hs3⟩ := bO_ex ho
          obtain ⟨T3, r3⟩ := q3
          replace ho := bO_go ho hs3
          refine sh_13030 h2 hs3 (fun G3 hb3 h23 hF3 => ?_)
          have hF3 := hFa.tr hF3
          refine us_if_eq hR dL_value_39 62 (by decide) (fun c4 => ?_) (fun c4 => ?_)
          · rw [if_pos c4] at ho
            refine us_iconstC hR dL_value_62 (c := 0) (by decide) ?_
            refine us_istore_n hR dL_value_63 (Nat.le_of_ble_eq_true rfl) ?_
            refine us_iincC hR dL_value_64 rfl (Nat.le_of_ble_eq_true rfl) (c := 1) (by decide) ?_
            refine us_goto hR dL_value_67 17 (by decide) ?_
            exact ih17 l0 l1 0 l3 (l4 + 1)  T3 G3 _ _ h23 hF3 ho
          · rw [if_neg c4] at ho
            refine us_aload_n hR dL_value_42 rfl ?_
            refine us_iload_n hR dL_value_43 rfl ?_
            refine us_bipushC hR dL_value_44 (c := 7) (by decide) ?_
            refine us_iconstC hR dL_value_46 (c := 4) (by decide) ?_
            refine us_iload hR dL_value_47 rfl ?_
            refine us_imul hR dL_value_49 ?_
            refine us_iadd hR dL_value_50 ?_
            refine us_ishr hR dL_value_51 ?_
            have hb := gd_c ho
            rw [gd_e hb] at ho
            refine us_callS hR dL_value_52 (y := 13029) (by decide +kernel) (by decide) (J := i13029) rfl rfl rfl rfl (rest := _) (Nat.le_of_ble_eq_true rfl) hb.1 hb.2 ?_
            obtain ⟨q5, hs5⟩ := bO_ex ho
            obtain ⟨T5, r5⟩ := q5
            replace ho := bO_go ho hs5
            refine sh_13029 h23 hs5 (fun G5 hb5 h25 hF5 => ?_)
            have hF5 := hF3.tr hF5
            refine us_if_eq hR dL_value_55 62 (by decide) (fun c6 => ?_) (fun c6 => ?_)
            · rw [if_pos c6] at ho
              refine us_iconstC hR dL_value_62 (c := 0) (by decide) ?_
              refine us_istore_n hR dL_value_63 (Nat.le_of_ble_eq_true rfl) ?_
              refine us_iincC hR dL_value_64 rfl (Nat.le_of_ble_eq_true rfl) (c := 1) (by decide) ?_
              refine us_goto hR dL_value_67 17 (by decide) ?_
              exact ih17 l0 l1 0 l3 (l4 + 1)  T5 G5 _ _ h25 hF5 ho
            · rw [if_neg c6] at ho
              refine us_iconstC hR dL_value_58 (c := 1) (by decide) ?_
              refine us_goto hR dL_value_59 63 (by decide) ?_
              refine us_istore_n hR dL_value_63 (Nat.le_of_ble_eq_true rfl) ?_
              refine us_iincC hR dL_value_64 rfl (Nat.le_of_ble_eq_true rfl) (c := 1) (by decide) ?_
              refine us_goto hR dL_value_67 17 (by decide) ?_
              exact ih17 l0 l1 1 l3 (l4 + 1)  T5 G5 _ _ h25 hF5 ho
  change R _ _ _ _ 32 192
  refine us_aload_n hR dL_value_0 rfl ?_
  refine us_iload_n hR dL_value_1 rfl ?_
  refine us_iconstC hR dL_value_2 (c := 3) (by decide) ?_
  refine us_ishr hR dL_value_3 ?_
  refine us_callS hR dL_value_4 (y := 13029) (by decide +kernel) (by decide) (J := i13029) rfl rfl rfl rfl (rest := _) (Nat.le_of_ble_eq_true rfl) (Nat.le_of_ble_eq_true rfl) (Nat.le_of_ble_eq_true rfl) ?_
  obtain ⟨q7, hs7⟩ := bO_ex ho
  obtain ⟨T7, r7⟩ := q7
  replace ho := bO_go ho hs7
  refine sh_13029 h2 hs7 (fun G7 hb7 h27 hF7 => ?_)
  have hF7 := hF.tr hF7
  change R _ _ _ _ 24 144
  refine us_istore_n hR dL_value_7 (Nat.le_of_ble_eq_true rfl) ?_
  refine us_iload_n hR dL_value_8 rfl ?_
  refine us_iconstC hR dL_value_9 (c := 3) (by decide) ?_
  refine us_callS hR dL_value_10 (y := 13001) (by decide +kernel) (by decide) (J := i13001) rfl rfl rfl rfl (rest := _) (Nat.le_of_ble_eq_true rfl) (Nat.zero_le _) (Nat.zero_le _) ?_
  obtain ⟨r8, hr8⟩ := bP_ex ho
  replace ho := bP_go ho hr8
  refine sh_13001 h27 hr8 ?_
  refine us_istore_n hR dL_value_13 (Nat.le_of_ble_eq_true rfl) ?_
  refine us_iconstC hR dL_value_14 (c := 0) (by decide) ?_
  refine us_istore hR dL_value_15 (Nat.le_of_ble_eq_true rfl) ?_
  exact h13031_L17 _ x0 x1 r7 r8 0  T7 G7 _ _ h27 hF7 ho
def h_13032_J432 (l0 : Nat) (l1 : Int32) (l2 : Int32) (l3 : Int32) (l4 : Int32) (bc bs : Nat) (T : Tx) : Option (Tx × Int32) :=
  if l4 = 0 then
    some (T, (-1))
  else
    if 7 ≤ l3 then
      some (T, 2)
    else
      some (T, 1)
def h_13032_J430 (l0 : Nat) (l1 : Int32) (l2 : Int32) (l3 : Int32) (l4 : Int32) (k0 : Int32) (bc bs : Nat) (T : Tx) : Option (Tx × Int32) :=
  h_13032_J432 l0 l1 l2 l3 k0 bc bs T
def h_13032_J429 (l0 : Nat) (l1 : Int32) (l2 : Int32) (l3 : Int32) (l4 : Int32) (bc bs : Nat) (T : Tx) : Option (Tx × Int32) :=
  h_13032_J430 l0 l1 l2 l3 l4 0 bc bs T
def h_13032_J346 (l0 : Nat) (l1 : Int32) (l2 : Int32) (l3 : Int32) (l4 : Int32) (k0 : Int32) (bc bs : Nat) (T : Tx) : Option (Tx × Int32) :=
  if k0 = 0 then
    h_13032_J429 l0 l1 l2 l3 k0 bc bs T
  else
    gd ((2 : Nat) ≤ bc ∧ 12 ≤ bs) <|
    bO (h_13028 l0 32 T) fun T4 r4 =>
    if r4 = 0 then
      h_13032_J429 l0 l1 l2 l3 k0 (bc - 2) (bs - 12) T4
    else
      gd ((32 : Nat) ≤ (bc - 2) ∧ 192 ≤ (bs - 12)) <|
      bO (h_13031 l0 l2 T4) fun T6 r6 =>
      if r6 = 0 then
        h_13032_J429 l0 l1 l2 l3 k0 ((bc - 2) - 32) ((bs - 12) - 192) T6
      else
        gd ((2 : Nat) ≤ ((bc - 2) - 32) ∧ 12 ≤ ((bs - 12) - 192)) <|
        bO (h_13028 l0 123 T6) fun T8 r8 =>
        if r8 = 0 then
          h_13032_J429 l0 l1 l2 l3 k0 (((bc - 2) - 32) - 2) (((bs - 12) - 192) - 12) T8
        else
          gd ((2 : Nat) ≤ (((bc - 2) - 32) - 2) ∧ 12 ≤ (((bs - 12) - 192) - 12)) <|
          bO (h_13028 l0 98 T8) fun T10 r10 =>
          if r10 = 0 then
            h_13032_J429 l0 l1 l2 l3 k0 ((((bc - 2) - 32) - 2) - 2) ((((bs - 12) - 192) - 12) - 12) T10
          else
            gd ((2 : Nat) ≤ ((((bc - 2) - 32) - 2) - 2) ∧ 12 ≤ ((((bs - 12) - 192) - 12) - 12)) <|
            bO (h_13028 l0 61 T10) fun T12 r12 =>
            if r12 = 0 then
              h_13032_J429 l0 l1 l2 l3 k0 (((((bc - 2) - 32) - 2) - 2) - 2) (((((bs - 12) - 192) - 12) - 12) - 12) T12
            else
              gd ((32 : Nat) ≤ (((((bc - 2) - 32) - 2) - 2) - 2) ∧ 192 ≤ (((((bs - 12) - 192) - 12) - 12) - 12)) <|
              bO (h_13031 l0 (l2 >>> (3 &&& 31)) T12) fun T14 r14 =>
              if r14 = 0 then
                h_13032_J429 l0 l1 l2 l3 k0 ((((((bc - 2) - 32) - 2) - 2) - 2) - 32) ((((((bs - 12) - 192) - 12) - 12) - 12) - 192) T14
              else
                gd ((2 : Nat) ≤ ((((((bc - 2) - 32) - 2) - 2) - 2) - 32) ∧ 12 ≤ ((((((bs - 12) - 192) - 12) - 12) - 12) - 192)) <|
                bO (h_13028 l0 59 T14) fun T16 r16 =>
                if r16 = 0 then
                  h_13032_J429 l0 l1 l2 l3 k0 (((((((bc - 2) - 32) - 2) - 2) - 2) - 32) - 2) (((((((bs - 12) - 192) - 12) - 12) - 12) - 192) - 12) T16
                else
                  gd ((2 : Nat) ≤ (((((((bc - 2) - 32) - 2) - 2) - 2) - 32) - 2) ∧ 12 ≤ (((((((bs - 12) - 192) - 12) - 12) - 12) - 192) - 12)) <|
                  bO (h_13028 l0 125 T16) fun T18 r18 =>
                  if r18 = 0 then
                    h_13032_J429 l0 l1 l2 l3 k0 ((((((((bc - 2) - 32) - 2) - 2) - 2) - 32) - 2) - 2) ((((((((bs - 12) - 192) - 12) - 12) - 12) - 192) - 12) - 12) T18
                  else
                    h_13032_J430 l0 l1 l2 l3 k0 1 ((((((((bc - 2) - 32) - 2) - 2) - 2) - 32) - 2) - 2) ((((((((bs - 12) - 192) - 12) - 12) - 12) - 192) - 12) - 12) T18
def h_13032_J345 (l0 : Nat) (l1 : Int32) (l2 : Int32) (l3 : Int32) (l4 : Int32) (bc bs : Nat) (T : Tx) : Option (Tx × Int32) :=
  h_13032_J346 l0 l1 l2 l3 l4 0 bc bs T
def h_13032_J292 (l0 : Nat) (l1 : Int32) (l2 : Int32) (l3 : Int32) (l4 : Int32) (bc bs : Nat) (T : Tx) : Option (Tx × Int32) :=
  h_13032_J346 l0 l1 l2 l3 l4 0 bc bs T
def h_13032_J259 (l0 : Nat) (l1 : Int32) (l2 : Int32) (l3 : Int32) (l4 : Int32) (k0 : Int32) (bc bs : Nat) (T : Tx) : Option (Tx × Int32) :=
  h_13032_J432 l0 l1 l2 l3 k0 bc bs T
def h_13032_J258 (l0 : Nat) (l1 : Int32) (l2 : Int32) (l3 : Int32) (l4 : Int32) (bc bs : Nat) (T : Tx) : Option (Tx × Int32) :=
  h_13032_J259 l0 l1 l2 l3 l4 0 bc bs T
def h_13032_J199 (l0 : Nat) (l1 : Int32) (l2 : Int32) (l3 : Int32) (l4 : Int32) (k0 : Int32) (bc bs : Nat) (T : Tx) : Option (Tx × Int32) :=
  h_13032_J432 l0 l1 l2 l3 k0 bc bs T
def h_13032_J198 (l0 : Nat) (l1 : Int32) (l2 : Int32) (l3 : Int32) (l4 : Int32) (bc bs : Nat) (T : Tx) : Option (Tx × Int32) :=
  h_13032_J199 l0 l1 l2 l3 l4 0 bc bs T
def h_13032_J131 (l0 : Nat) (l1 : Int32) (l2 : Int32) (l3 : Int32) (l4 : Int32) (k0 : Int32) (bc bs : Nat) (T : Tx) : Option (Tx × Int32) :=
  h_13032_J432 l0 l1 l2 l3 k0 bc bs T
def h_13032_J130 (l0 : Nat) (l1 : Int32) (l2 : Int32) (l3 : Int32) (l4 : Int32) (bc bs : Nat) (T : Tx) : Option (Tx × Int32) :=
  h_13032_J131 l0 l1 l2 l3 l4 0 bc bs T
def h_13032_J63 (l0 : Nat) (l1 : Int32) (l2 : Int32) (l3 : Int32) (l4 : Int32) (k0 : Int32) (bc bs : Nat) (T : Tx) : Option (Tx × Int32) :=
  h_13032_J432 l0 l1 l2 l3 k0 bc bs T
def h_13032_J62 (l0 : Nat) (l1 : Int32) (l2 : Int32) (l3 : Int32) (l4 : Int32) (bc bs : Nat) (T : Tx) : Option (Tx × Int32) :=
  h_13032_J63 l0 l1 l2 l3 l4 0 bc bs T
def h_13032 (x0 : Nat) (x1 : Int32) (x2 : Int32) (T : Tx) : Option (Tx × Int32) :=
  bP (h_13001 x1 9 T) fun r20 =>
  if 3 ≤ r20 then
    if 5 ≤ r20 then
      if r20 = 5 then
        bO (h_13028 x0 35 T) fun T50 r50 =>
        if r50 = 0 then
          h_13032_J198 x0 x1 x2 r20 1 94 564 T50
        else
          bP (h_13001 (x1 >>> (4 &&& 31)) 10 T50) fun r52 =>
          bO (h_13028 x0 (48 + r52) T50) fun T53 r53 =>
          if r53 = 0 then
            h_13032_J198 x0 x1 x2 r20 1 92 552 T53
          else
            bO (h_13028 x0 61 T53) fun T55 r55 =>
            if r55 = 0 then
              h_13032_J198 x0 x1 x2 r20 1 90 540 T55
            else
              bO (h_13031 x0 x2 T55) fun T57 r57 =>
              if r57 = 0 then
                h_13032_J198 x0 x1 x2 r20 1 58 348 T57
              else
                bO (h_13028 x0 59 T57) fun T59 r59 =>
                if r59 = 0 then
                  h_13032_J198 x0 x1 x2 r20 1 56 336 T59
                else
                  h_13032_J199 x0 x1 x2 r20 1 1 56 336 T59
      else
        if r20 = 6 then
          bO (h_13028 x0 102 T) fun T40 r40 =>
          if r40 = 0 then
            h_13032_J258 x0 x1 x2 r20 1 94 564 T40
          else
            bO (h_13028 x0 40 T40) fun T42 r42 =>
            if r42 = 0 then
              h_13032_J258 x0 x1 x2 r20 1 92 552 T42
            else
              bO (h_13031 x0 x2 T42) fun T44 r44 =>
              if r44 = 0 then
                h_13032_J258 x0 x1 x2 r20 1 60 360 T44
              else
                bO (h_13028 x0 41 T44) fun T46 r46 =>
                if r46 = 0 then
                  h_13032_J258 x0 x1 x2 r20 1 58 348 T46
                else
                  bO (h_13028 x0 59 T46) fun T48 r48 =>
                  if r48 = 0 then
                    h_13032_J258 x0 x1 x2 r20 1 56 336 T48
                  else
                    h_13032_J259 x0 x1 x2 r20 1 1 56 336 T48
        else
          if r20 = 7 then
            bO (h_13028 x0 105 T) fun T36 r36 =>
            if r36 = 0 then
              h_13032_J292 x0 x1 x2 r20 1 94 564 T36
            else
              bO (h_13028 x0 102 T36) fun T38 r38 =>
              if r38 = 0 then
                h_13032_J292 x0 x1 x2 r20 1 92 552 T38
              else
                h_13032_J346 x0 x1 x2 r20 1 1 92 552 T38
          else
            bO (h_13028 x0 119 T) fun T26 r26 =>
            if r26 = 0 then
              h_13032_J345 x0 x1 x2 r20 1 94 564 T26
            else
              bO (h_13028 x0 104 T26) fun T28 r28 =>
              if r28 = 0 then
                h_13032_J345 x0 x1 x2 r20 1 92 552 T28
              else
                bO (h_13028 x0 105 T28) fun T30 r30 =>
                if r30 = 0 then
                  h_13032_J345 x0 x1 x2 r20 1 90 540 T30
                else
                  bO (h_13028 x0 108 T30) fun T32 r32 =>
                  if r32 = 0 then
                    h_13032_J345 x0 x1 x2 r20 1 88 528 T32
                  else
                    bO (h_13028 x0 101 T32) fun T34 r34 =>
                    if r34 = 0 then
                      h_13032_J345 x0 x1 x2 r20 1 86 516 T34
                    else
                      h_13032_J346 x0 x1 x2 r20 1 1 86 516 T34
    else
      bO (h_13028 x0 111 T) fun T61 r61 =>
      if r61 = 0 then
        h_13032_J130 x0 x1 x2 r20 1 94 564 T61
      else
        bO (h_13028 x0 117 T61) fun T63 r63 =>
        if r63 = 0 then
          h_13032_J130 x0 x1 x2 r20 1 92 552 T63
        else
          bO (h_13028 x0 116 T63) fun T65 r65 =>
          if r65 = 0 then
            h_13032_J130 x0 x1 x2 r20 1 90 540 T65
          else
            bO (h_13028 x0 32 T65) fun T67 r67 =>
            if r67 = 0 then
              h_13032_J130 x0 x1 x2 r20 1 88 528 T67
            else
              bO (h_13031 x0 x2 T67) fun T69 r69 =>
              if r69 = 0 then
                h_13032_J130 x0 x1 x2 r20 1 56 336 T69
              else
                bO (h_13028 x0 59 T69) fun T71 r71 =>
                if r71 = 0 then
                  h_13032_J130 x0 x1 x2 r20 1 54 324 T71
                else
                  h_13032_J131 x0 x1 x2 r20 1 1 54 324 T71
  else
    bP (h_13001 (x1 >>> (4 &&& 31)) 4 T) fun r73 =>
    bO (h_13028 x0 (97 + r73) T) fun T74 r74 =>
    if r74 = 0 then
      h_13032_J62 x0 x1 x2 r20 1 94 564 T74
    else
      bO (h_13028 x0 61 T74) fun T76 r76 =>
      if r76 = 0 then
        h_13032_J62 x0 x1 x2 r20 1 92 552 T76
      else
        bO (h_13031 x0 x2 T76) fun T78 r78 =>
        if r78 = 0 then
          h_13032_J62 x0 x1 x2 r20 1 60 360 T78
        else
          bO (h_13028 x0 59 T78) fun T80 r80 =>
          if r80 = 0 then
            h_13032_J62 x0 x1 x2 r20 1 58 348 T80
          else
            h_13032_J63 x0 x1 x2 r20 1 1 58 348 T80
theorem sh_13032 {F : Nat → Prop} {d : Nat} {G : ab_G} {T : Tx} {P : ab_Pq} {X : ab_Xq} (h2 : Rep2 F G T) {x0 : Nat} {x1 : Int32} {x2 : Int32} {o : Tx × Int32} (ho : h_13032 x0 x1 x2 T = some o) (h : ∀ G1, Rep2 F G1 o.1 → SameF F G G1 → P G1 (some (.int o.2))) : ab_Gam (d + 15) 13032 [.ref x0, .int x1, .int x2] G P X := by
  have hF : SameF F G G := SameF_rfl
  unfold h_13032 at ho
  refine ab_enter (I := i13032) rfl (Nat.le_of_ble_eq_true rfl) (fun R hR => ?_)
  have h13032_J432 : ∀ (l0 : Nat) (l1 : Int32) (l2 : Int32) (l3 : Int32) (l4 : Int32)  (T : Tx) (Ga : ab_G) (bc bs : Nat) (h2 : Rep2 F Ga T) (hFa : SameF F G Ga) (ho : h_13032_J432 l0 l1 l2 l3 l4 bc bs T = some o), R 432 [some (.ref l0), some (.int l1), some (.int l2), some (.int l3), some (.int l4)] [] Ga bc bs := by
    intro l0 l1 l2 l3 l4  T Ga bc bs h2 hFa ho
    unfold h_13032_J432 at ho
    refine us_iload hR dL_statement_432 rfl ?_
    refine us_if_eq hR dL_statement_434 451 (by decide) (fun c1 => ?_) (fun c1 => ?_)
    · rw [if_pos c1] at ho
      refine us_iconstC hR dL_statement_451 (c := (-1)) (by decide) ?_
      refine us_iret hR dL_statement_452 rfl rfl ?_
      cases ho
      exact h _ h2 hFa
    · rw [if_neg c1] at ho
      refine us_iload_n hR dL_statement_437 rfl ?_
      refine us_bipushC hR dL_statement_438 (c := 7) (by decide) ?_
      refine us_icmp_ge hR dL_statement_440 447 (by decide) (fun c2 => ?_) (fun c2 => ?_)
      · rw [if_pos c2] at ho
        refine us_iconstC hR dL_statement_447 (c := 2) (by decide) ?_
        refine us_goto hR dL_statement_448 452 (by decide) ?_
        refine us_iret hR dL_statement_452 rfl rfl ?_
        cases ho
        exact h _ h2 hFa
      · rw [if_neg c2] at ho
        refine us_iconstC hR dL_statement_443 (c := 1) (by decide) ?_
        refine us_goto hR dL_statement_444 452 (by decide) ?_
        refine us_iret hR dL_statement_452 rfl rfl ?_
        cases ho
        exact h _ h2 hFa
  have h13032_J430 : ∀ (l0 : Nat) (l1 : Int32) (l2 : Int32) (l3 : Int32) (l4 : Int32) (k0 : Int32)  (T : Tx) (Ga : ab_G) (bc bs : Nat) (h2 : Rep2 F Ga T) (hFa : SameF F G Ga) (ho : h_13032_J430 l0 l1 l2 l3 l4 k0 bc bs T = some o), R 430 [some (.ref l0), some (.int l1), some (.int l2), some (.int l3), some (.int l4)] [.int k0] Ga bc bs := by
    intro l0 l1 l2 l3 l4 k0  T Ga bc bs h2 hFa ho
    unfold h_13032_J430 at ho
    refine us_istore hR dL_statement_430 (Nat.le_of_ble_eq_true rfl) ?_
    exact h13032_J432 l0 l1 l2 l3 k0  T Ga _ _ h2 hFa ho
  have h13032_J429 : ∀ (l0 : Nat) (l1 : Int32) (l2 : Int32) (l3 : Int32) (l4 : Int32)  (T : Tx) (Ga : ab_G) (bc bs : Nat) (h2 : Rep2 F Ga T) (hFa : SameF F G Ga) (ho : h_13032_J429 l0 l1 l2 l3 l4 bc bs T = some o), R 429 [some (.ref l0), some (.int l1), some (.int l2), some (.int l3), some (.int l4)] [] Ga bc bs := by
    intro l0 l1 l2 l3 l4  T Ga bc bs h2 hFa ho
    unfold h_13032_J429 at ho
    refine us_iconstC hR dL_statement_429 (c := 0) (by decide) ?_
    exact h13032_J430 l0 l1 l2 l3 l4 0  T Ga _ _ h2 hFa ho
  have h13032_J346 : ∀ (l0 : Nat) (l1 : Int32) (l2 : Int32) (l3 : Int32) (l4 : Int32) (k0 : Int32)  (T : Tx) (Ga : ab_G) (bc bs : Nat) (h2 : Rep2 F Ga T) (hFa : SameF F G Ga) (ho : h_13032_J346 l0 l1 l2 l3 l4 k0 bc bs T = some o), R 346 [some (.ref l0), some (.int l1), some (.int l2), some (.int l3), some (.int l4)] [.int k0] Ga bc bs := by
    intro l0 l1 l2 l3 l4 k0  T Ga bc bs h2 hFa ho
    unfold h_13032_J346 at ho
    refine us_istore hR dL_statement_346 (Nat.le_of_ble_eq_true rfl) ?_
    refine us_iload hR dL_statement_348 rfl ?_
    refine us_if_eq hR dL_statement_350 429 (by decide) (fun c3 => ?_) (fun c3 => ?_)
    · rw [if_pos c3] at ho
      exact h13032_J429 l0 l1 l2 l3 k0  T Ga _ _ h2 hFa ho
    · rw [if_neg c3] at ho
      refine us_aload_n hR dL_statement_353 rfl ?_
      refine us_bipushC hR dL_statement_354 (c := 32) (by decide) ?_
      have hb := gd_c ho
      rw [gd_e hb] at ho
      refine us_callS hR dL_statement_356 (y := 13028) (by decide +kernel) (by decide) (J := i13028) rfl rfl rfl rfl (rest := _) (Nat.le_of_ble_eq_true rfl) hb.1 hb.2 ?_
      obtain ⟨q4, hs4⟩ := bO_ex ho
      obtain ⟨T4, r4⟩ := q4
      replace ho := bO_go ho hs4
      refine sh_13028 h2 hs4 (fun G4 hb4 h24 hF4 => ?_)
      have hF4 := hFa.tr hF4
      refine us_if_eq hR dL_statement_359 429 (by decide) (fun c5 => ?_) (fun c5 => ?_)
      · rw [if_pos c5] at ho
        exact h13032_J429 l0 l1 l2 l3 k0  T4 G4 _ _ h24 hF4 ho
      · rw [if_neg c5] at ho
        refine us_aload_n hR dL_statement_362 rfl ?_
        refine us_iload_n hR dL_statement_363 rfl ?_
        have hb := gd_c ho
        rw [gd_e hb] at ho
        refine us_callS hR dL_statement_364 (y := 13031) (by decide +kernel) (by decide) (J := i13031) rfl rfl rfl rfl (rest := _) (Nat.le_of_ble_eq_true rfl) hb.1 hb.2 ?_
        obtain ⟨q6, hs6⟩ := bO_ex ho
        obtain ⟨T6, r6⟩ := q6
        replace ho := bO_go ho hs6
        refine sh_13031 h24 hs6 (fun G6 hb6 h26 hF6 => ?_)
        have hF6 := hF4.tr hF6
        refine us_if_eq hR dL_statement_367 429 (by decide) (fun c7 => ?_) (fun c7 => ?_)
        · rw [if_pos c7] at ho
          exact h13032_J429 l0 l1 l2 l3 k0  T6 G6 _ _ h26 hF6 ho
        · rw [if_neg c7] at ho
          refine us_aload_n hR dL_statement_370 rfl ?_
          refine us_bipushC hR dL_statement_371 (c := 123) (by decide) ?_
          have hb := gd_c ho
          rw [gd_e hb] at ho
          refine us_callS hR dL_statement_373 (y := 13028) (by decide +kernel) (by decide) (J := i13028) rfl rfl rfl rfl (rest := _) (Nat.le_of_ble_eq_true rfl) hb.1 hb.2 ?_
          obtain ⟨q8, hs8⟩ := bO_ex ho
          obtain ⟨T8, r8⟩ := q8
          replace ho := bO_go ho hs8
          refine sh_13028 h26 hs8 (fun G8 hb8 h28 hF8 => ?_)
          have hF8 := hF6.tr hF8
          refine us_if_eq hR dL_statement_376 429 (by decide) (fun c9 => ?_) (fun c9 => ?_)
          · rw [if_pos c9] at ho
            exact h13032_J429 l0 l1 l2 l3 k0  T8 G8 _ _ h28 hF8 ho
          · rw [if_neg c9] at ho
            refine us_aload_n hR dL_statement_379 rfl ?_
            refine us_bipushC hR dL_statement_380 (c := 98) (by decide) ?_
            have hb := gd_c ho
            rw [gd_e hb] at ho
            refine us_callS hR dL_statement_382 (y := 13028) (by decide +kernel) (by decide) (J := i13028) rfl rfl rfl rfl (rest := _) (Nat.le_of_ble_eq_true rfl) hb.1 hb.2 ?_
            obtain ⟨q10, hs10⟩ := bO_ex ho
            obtain ⟨T10, r10⟩ := q10
            replace ho := bO_go ho hs10
            refine sh_13028 h28 hs10 (fun G10 hb10 h210 hF10 => ?_)
            have hF10 := hF8.tr hF10
            refine us_if_eq hR dL_statement_385 429 (by decide) (fun c11 => ?_) (fun c11 => ?_)
            · rw [if_pos c11] at ho
              exact h13032_J429 l0 l1 l2 l3 k0  T10 G10 _ _ h210 hF10 ho
            · rw [if_neg c11] at ho
              refine us_aload_n hR dL_statement_388 rfl ?_
              refine us_bipushC hR dL_statement_389 (c := 61) (by decide) ?_
              have hb := gd_c ho
              rw [gd_e hb] at ho
              refine us_callS hR dL_statement_391 (y := 13028) (by decide +kernel) (by decide) (J := i13028) rfl rfl rfl rfl (rest := _) (Nat.le_of_ble_eq_true rfl) hb.1 hb.2 ?_
              obtain ⟨q12, hs12⟩ := bO_ex ho
              obtain ⟨T12, r12⟩ := q12
              replace ho := bO_go ho hs12
              refine sh_13028 h210 hs12 (fun G12 hb12 h212 hF12 => ?_)
              have hF12 := hF10.tr hF12
              refine us_if_eq hR dL_statement_394 429 (by decide) (fun c13 => ?_) (fun c13 => ?_)
              · rw [if_pos c13] at ho
                exact h13032_J429 l0 l1 l2 l3 k0  T12 G12 _ _ h212 hF12 ho
              · rw [if_neg c13] at ho
                refine us_aload_n hR dL_statement_397 rfl ?_
                refine us_iload_n hR dL_statement_398 rfl ?_
                refine us_iconstC hR dL_statement_399 (c := 3) (by decide) ?_
                refine us_ishr hR dL_statement_400 ?_
                have hb := gd_c ho
                rw [gd_e hb] at ho
                refine us_callS hR dL_statement_401 (y := 13031) (by decide +kernel) (by decide) (J := i13031) rfl rfl rfl rfl (rest := _) (Nat.le_of_ble_eq_true rfl) hb.1 hb.2 ?_
                obtain ⟨q14, hs14⟩ := bO_ex ho
                obtain ⟨T14, r14⟩ := q14
                replace ho := bO_go ho hs14
                refine sh_13031 h212 hs14 (fun G14 hb14 h214 hF14 => ?_)
                have hF14 := hF12.tr hF14
                refine us_if_eq hR dL_statement_404 429 (by decide) (fun c15 => ?_) (fun c15 => ?_)
                · rw [if_pos c15] at ho
                  exact h13032_J429 l0 l1 l2 l3 k0  T14 G14 _ _ h214 hF14 ho
                · rw [if_neg c15] at ho
                  refine us_aload_n hR dL_statement_407 rfl ?_
                  refine us_bipushC hR dL_statement_408 (c := 59) (by decide) ?_
                  have hb := gd_c ho
                  rw [gd_e hb] at ho
                  refine us_callS hR dL_statement_410 (y := 13028) (by decide +kernel) (by decide) (J := i13028) rfl rfl rfl rfl (rest := _) (Nat.le_of_ble_eq_true rfl) hb.1 hb.2 ?_
                  obtain ⟨q16, hs16⟩ := bO_ex ho
                  obtain ⟨T16, r16⟩ := q16
                  replace ho := bO_go ho hs16
                  refine sh_13028 h214 hs16 (fun G16 hb16 h216 hF16 => ?_)
                  have hF16 := hF14.tr hF16
                  refine us_if_eq hR dL_statement_413 429 (by decide) (fun c17 => ?_) (fun c17 => ?_)
                  · rw [if_pos c17] at ho
                    exact h13032_J429 l0 l1 l2 l3 k0  T16 G16 _ _ h216 hF16 ho
                  · rw [if_neg c17] at ho
                    refine us_aload_n hR dL_statement_416 rfl ?_
                    refine us_bipushC hR dL_statement_417 (c := 125) (by decide) ?_
                    have hb := gd_c ho
                    rw [gd_e hb] at ho
                    refine us_callS hR dL_statement_419 (y := 13028) (by decide +kernel) (by decide) (J := i13028) rfl rfl rfl rfl (rest := _) (Nat.le_of_ble_eq_true rfl) hb.1 hb.2 ?_
                    obtain ⟨q18, hs18⟩ := bO_ex ho
                    obtain ⟨T18, r18⟩ := q18
                    replace ho := bO_go ho hs18
                    refine sh_13028 h216 hs18 (fun G18 hb18 h218 hF18 => ?_)
                    have hF18 := hF16.tr hF18
                    refine us_if_eq hR dL_statement_422 429 (by decide) (fun c19 => ?_) (fun c19 => ?_)
                    · rw [if_pos c19] at ho
                      exact h13032_J429 l0 l1 l2 l3 k0  T18 G18 _ _ h218 hF18 ho
                    · rw [if_neg c19] at ho
                      refine us_iconstC hR dL_statement_425 (c := 1) (by decide) ?_
                      refine us_goto hR dL_statement_426 430 (by decide) ?_
                      exact h13032_J430 l0 l1 l2 l3 k0 1  T18 G18 _ _ h218 hF18 ho
  have h13032_J345 : ∀ (l0 : Nat) (l1 : Int32) (l2 : Int32) (l3 : Int32) (l4 : Int32)  (T : Tx) (Ga : ab_G) (bc bs : Nat) (h2 : Rep2 F Ga T) (hFa : SameF F G Ga) (ho : h_13032_J345 l0 l1 l2 l3 l4 bc bs T = some o), R 345 [some (.ref l0), some (.int l1), some (.int l2), some (.int l3), some (.int l4)] [] Ga bc bs := by
    intro l0 l1 l2 l3 l4  T Ga bc bs h2 hFa ho
    unfold h_13032_J345 at ho
    refine us_iconstC hR dL_statement_345 (c := 0) (by decide) ?_
    exact h13032_J346 l0 l1 l2 l3 l4 0  T Ga _ _ h2 hFa ho
  have h13032_J292 : ∀ (l0 : Nat) (l1 : Int32) (l2 : Int32) (l3 : Int32) (l4 : Int32)  (T : Tx) (Ga : ab_G) (bc bs : Nat) (h2 : Rep2 F Ga T) (hFa : SameF F G Ga) (ho : h_13032_J292 l0 l1 l2 l3 l4 bc bs T = some o), R 292 [some (.ref l0), some (.int l1), some (.int l2), some (.int l3), some (.int l4)] [] Ga bc bs := by
    intro l0 l1 l2 l3 l4  T Ga bc bs h2 hFa ho
    unfold h_13032_J292 at ho
    refine us_iconstC hR dL_statement_292 (c := 0) (by decide) ?_
    refine us_goto hR dL_statement_293 346 (by decide) ?_
    exact h13032_J346 l0 l1 l2 l3 l4 0  T Ga _ _ h2 hFa ho
  have h13032_J259 : ∀ (l0 : Nat) (l1 : Int32) (l2 : Int32) (l3 : Int32) (l4 : Int32) (k0 : Int32)  (T : Tx) (Ga : ab_G) (bc bs : Nat) (h2 : Rep2 F Ga T) (hFa : SameF F G Ga) (ho : h_13032_J259 l0 l1 l2 l3 l4 k0 bc bs T = some o), R 259 [some (.ref l0), some (.int l1), some (.int l2), some (.int l3), some (.int l4)] [.int k0] Ga bc bs := by
    intro l0 l1 l2 l3 l4 k0  T Ga bc bs h2 hFa ho
    unfold h_13032_J259 at ho
    refine us_istore hR dL_statement_259 (Nat.le_of_ble_eq_true rfl) ?_
    refine us_goto hR dL_statement_261 432 (by decide) ?_
    exact h13032_J432 l0 l1 l2 l3 k0  T Ga _ _ h2 hFa ho
  have h13032_J258 : ∀ (l0 : Nat) (l1 : Int32) (l2 : Int32) (l3 : Int32) (l4 : Int32)  (T : Tx) (Ga : ab_G) (bc bs : Nat) (h2 : Rep2 F Ga T) (hFa : SameF F G Ga) (ho : h_13032_J258 l0 l1 l2 l3 l4 bc bs T = some o), R 258 [some (.ref l0), some (.int l1), some (.int l2), some (.int l3), some (.int l4)] [] Ga bc bs := by
    intro l0 l1 l2 l3 l4  T Ga bc bs h2 hFa ho
    unfold h_13032_J258 at ho
    refine us_iconstC hR dL_statement_258 (c := 0) (by decide) ?_
    exact h13032_J259 l0 l1 l2 l3 l4 0  T Ga _ _ h2 hFa ho
  have h13032_J199 : ∀ (l0 : Nat) (l1 : Int32) (l2 : Int32) (l3 : Int32) (l4 : Int32) (k0 : Int32)  (T : Tx) (Ga : ab_G) (bc bs : Nat) (h2 : Rep2 F Ga T) (hFa : SameF F G Ga) (ho : h_13032_J199 l0 l1 l2 l3 l4 k0 bc bs T = some o), R 199 [some (.ref l0), some (.int l1), some (.int l2), some (.int l3), some (.int l4)] [.int k0] Ga bc bs := by
    intro l0 l1 l2 l3 l4 k0  T Ga bc bs h2 hFa ho
    unfold h_13032_J199 at ho
    refine us_istore hR dL_statement_199 (Nat.le_of_ble_eq_true rfl) ?_
    refine us_goto hR dL_statement_201 432 (by decide) ?_
    exact h13032_J432 l0 l1 l2 l3 k0  T Ga _ _ h2 hFa ho
  have h13032_J198 : ∀ (l0 : Nat) (l1 : Int32) (l2 : Int32) (l3 : Int32) (l4 : Int32)  (T : Tx) (Ga : ab_G) (bc bs : Nat) (h2 : Rep2 F Ga T) (hFa : SameF F G Ga) (ho : h_13032_J198 l0 l1 l2 l3 l4 bc bs T = some o), R 198 [some (.ref l0), some (.int l1), some (.int l2), some (.int l3), some (.int l4)] [] Ga bc bs := by
    intro l0 l1 l2 l3 l4  T Ga bc bs h2 hFa ho
    unfold h_13032_J198 at ho
    refine us_iconstC hR dL_statement_198 (c := 0) (by decide) ?_
    exact h13032_J199 l0 l1 l2 l3 l4 0  T Ga _ _ h2 hFa ho
  have h13032_J131 : ∀ (l0 : Nat) (l1 : Int32) (l2 : Int32) (l3 : Int32) (l4 : Int32) (k0 : Int32)  (T : Tx) (Ga : ab_G) (bc bs : Nat) (h2 : Rep2 F Ga T) (hFa : SameF F G Ga) (ho : h_13032_J131 l0 l1 l2 l3 l4 k0 bc bs T = some o), R 131 [some (.ref l0), some (.int l1), some (.int l2), some (.int l3), some (.int l4)] [.int k0] Ga bc bs := by
    intro l0 l1 l2 l3 l4 k0  T Ga bc bs h2 hFa ho
    unfold h_13032_J131 at ho
    refine us_istore hR dL_statement_131 (Nat.le_of_ble_eq_true rfl) ?_
    refine us_goto hR dL_statement_133 432 (by decide) ?_
    exact h13032_J432 l0 l1 l2 l3 k0  T Ga _ _ h2 hFa ho
  have h13032_J130 : ∀ (l0 : Nat) (l1 : Int32) (l2 : Int32) (l3 : Int32) (l4 : Int32)  (T : Tx) (Ga : ab_G) (bc bs : Nat) (h2 : Rep2 F Ga T) (hFa : SameF F G Ga) (ho : h_13032_J130 l0 l1 l2 l3 l4 bc bs T = some o), R 130 [some (.ref l0), some (.int l1), some (.int l2), some (.int l3), some (.int l4)] [] Ga bc bs := by
    intro l0 l1 l2 l3 l4  T Ga bc bs h2 hFa ho
    unfold h_13032_J130 at ho
    refine us_iconstC hR dL_statement_130 (c := 0) (by decide) ?_
    exact h13032_J131 l0 l1 l2 l3 l4 0  T Ga _ _ h2 hFa ho
  have h13032_J63 : ∀ (l0 : Nat) (l1 : Int32) (l2 : Int32) (l3 : Int32) (l4 : Int32) (k0 : Int32)  (T : Tx) (Ga : ab_G) (bc bs : Nat) (h2 : Rep2 F Ga T) (hFa : SameF F G Ga) (ho : h_13032_J63 l0 l1 l2 l3 l4 k0 bc bs T = some o), R 63 [some (.ref l0), some (.int l1), some (.int l2), some (.int l3), some (.int l4)] [.int k0] Ga bc bs := by
    intro l0 l1 l2 l3 l4 k0  T Ga bc bs h2 hFa ho
    unfold h_13032_J63 at ho
    refine us_istore hR dL_statement_63 (Nat.le_of_ble_eq_true rfl) ?_
    refine us_goto hR dL_statement_65 432 (by decide) ?_
    exact h13032_J432 l0 l1 l2 l3 k0  T Ga _ _ h2 hFa ho
  have h13032_J62 : ∀ (l0 : Nat) (l1 : Int32) (l2 : Int32) (l3 : Int32) (l4 : Int32)  (T : Tx) (Ga : ab_G) (bc bs : Nat) (h2 : Rep2 F Ga T) (hFa : SameF F G Ga) (ho : h_13032_J62 l0 l1 l2 l3 l4 bc bs T = some o), R 62 [some (.ref l0), some (.int l1), some (.int l2), some (.int l3), some (.int l4)] [] Ga bc bs := by
    intro l0 l1 l2 l3 l4  T Ga bc bs h2 hFa ho
    unfold h_13032_J62 at ho
    refine us_iconstC hR dL_statement_62 (c := 0) (by decide) ?_
    exact h13032_J63 l0 l1 l2 l3 l4 0  T Ga _ _ h2 hFa ho
  change R _ _ _ _ 96 576
  refine us_iload_n hR dL_statement_0 rfl ?_
  refine us_bipushC hR dL_statement_1 (c := 9) (by decide) ?_
  refine us_callS hR dL_statement_3 (y := 13001) (by decide +kernel) (by decide) (J := i13001) rfl rfl rfl rfl (rest := _) (Nat.le_of_ble_eq_true rfl) (Nat.zero_le _) (Nat.zero_le _) ?_
  obtain ⟨r20, hr20⟩ := bP_ex ho
  replace ho := bP_go ho hr20
  refine sh_13001 h2 hr20 ?_
  refine us_istore_n hR dL_statement_6 (Nat.le_of_ble_eq_true rfl) ?_
  refine us_iconstC hR dL_statement_7 (c := 1) (by decide) ?_
  refine us_istore hR dL_statement_8 (Nat.le_of_ble_eq_true rfl) ?_
  refine us_iload_n hR dL_statement_10 rfl ?_
  refine us_iconstC hR dL_statement_11 (c := 3) (by decide) ?_
  refine us_icmp_ge hR dL_statement_12 68 (by decide) (fun c21 => ?_) (fun c21 => ?_)
  · rw [if_pos c21] at ho
    change R _ _ _ _ 96 576
    refine us_iload_n hR dL_statement_68 rfl ?_
    refine us_iconstC hR dL_statement_69 (c := 5) (by decide) ?_
    refine us_icmp_ge hR dL_statement_70 136 (by decide) (fun c22 => ?_) (fun c22 => ?_)
    · rw [if_pos c22] at ho
      change R _ _ _ _ 96 576
      refine us_iload_n hR dL_statement_136 rfl ?_
      refine us_iconstC hR dL_statement_137 (c := 5) (by decide) ?_
      refine us_icmp_ne hR dL_statement_138 204 (by decide) (fun c23 => ?_) (fun c23 => ?_)
      · rw [if_neg c23] at ho
        change R _ _ _ _ 96 576
        refine us_iload_n hR dL_statement_204 rfl ?_
        refine us_bipushC hR dL_statement_205 (c := 6) (by decide) ?_
        refine us_icmp_ne hR dL_statement_207 264 (by decide) (fun c24 => ?_) (fun c24 => ?_)
        · rw [if_neg c24] at ho
          change R _ _ _ _ 96 576
          refine us_iload_n hR dL_statement_264 rfl ?_
          refine us_bipushC hR dL_statement_265 (c := 7) (by decide) ?_
          refine us_icmp_ne hR dL_statement_267 296 (by decide) (fun c25 => ?_) (fun c25 => ?_)
          · rw [if_neg c25] at ho
            change R _ _ _ _ 96 576
            refine us_aload_n hR dL_statement_296 rfl ?_
            refine us_bipushC hR dL_statement_297 (c := 119) (by decide) ?_
            refine us_callS hR dL_statement_299 (y := 13028) (by decide +kernel) (by decide) (J := i13028) rfl rfl rfl rfl (rest := _) (Nat.le_of_ble_eq_true rfl) (Nat.le_of_ble_eq_true rfl) (Nat.le_of_ble_eq_true rfl) ?_
            obtain ⟨q26, hs26⟩ := bO_ex ho
            obtain ⟨T26, r26⟩ := q26
            replace ho := bO_go ho hs26
            refine sh_13028 h2 hs26 (fun G26 hb26 h226 hF26 => ?_)
            have hF26 := hF.tr hF26
            change R _ _ _ _ 94 564
            refine us_if_eq hR dL_statement_302 345 (by decide) (fun c27 => ?_) (fun c27 => ?_)
            · rw [if_pos c27] at ho
              exact h13032_J345 x0 x1 x2 r20 1  T26 G26 _ _ h226 hF26 ho
            · rw [if_neg c27] at ho
              change R _ _ _ _ 94 564
              refine us_aload_n hR dL_statement_305 rfl ?_
              refine us_bipushC hR dL_statement_306 (c := 104) (by decide) ?_
              refine us_callS hR dL_statement_308 (y := 13028) (by decide +kernel) (by decide) (J := i13028) rfl rfl rfl rfl (rest := _) (Nat.le_of_ble_eq_true rfl) (Nat.le_of_ble_eq_true rfl) (Nat.le_of_ble_eq_true rfl) ?_
              obtain ⟨q28, hs28⟩ := bO_ex ho
              obtain ⟨T28, r28⟩ := q28
              replace ho := bO_go ho hs28
              refine sh_13028 h226 hs28 (fun G28 hb28 h228 hF28 => ?_)
              have hF28 := hF26.tr hF28
              change R _ _ _ _ 92 552
              refine us_if_eq hR dL_statement_311 345 (by decide) (fun c29 => ?_) (fun c29 => ?_)
              · rw [if_pos c29] at ho
                exact h13032_J345 x0 x1 x2 r20 1  T28 G28 _ _ h228 hF28 ho
              · rw [if_neg c29] at ho
                change R _ _ _ _ 92 552
                refine us_aload_n hR dL_statement_314 rfl ?_
                refine us_bipushC hR dL_statement_315 (c := 105) (by decide) ?_
                refine us_callS hR dL_statement_317 (y := 13028) (by decide +kernel) (by decide) (J := i13028) rfl rfl rfl rfl (rest := _) (Nat.le_of_ble_eq_true rfl) (Nat.le_of_ble_eq_true rfl) (Nat.le_of_ble_eq_true rfl) ?_
                obtain ⟨q30, hs30⟩ := bO_ex ho
                obtain ⟨T30, r30⟩ := q30
                replace ho := bO_go ho hs30
                refine sh_13028 h228 hs30 (fun G30 hb30 h230 hF30 => ?_)
                have hF30 := hF28.tr hF30
                change R _ _ _ _ 90 540
                refine us_if_eq hR dL_statement_320 345 (by decide) (fun c31 => ?_) (fun c31 => ?_)
                · rw [if_pos c31] at ho
                  exact h13032_J345 x0 x1 x2 r20 1  T30 G30 _ _ h230 hF30 ho
                · rw [if_neg c31] at ho
                  change R _ _ _ _ 90 540
                  refine us_aload_n hR dL_statement_323 rfl ?_
                  refine us_bipushC hR dL_statement_324 (c := 108) (by decide) ?_
                  refine us_callS hR dL_statement_326 (y := 13028) (by decide +kernel) (by decide) (J := i13028) rfl rfl rfl rfl (rest := _) (Nat.le_of_ble_eq_true rfl) (Nat.le_of_ble_eq_true rfl) (Nat.le_of_ble_eq_true rfl) ?_
                  obtain ⟨q32, hs32⟩ := bO_ex ho
                  obtain ⟨T32, r32⟩ := q32
                  replace ho := bO_go ho hs32
                  refine sh_13028 h230 hs32 (fun G32 hb32 h232 hF32 => ?_)
                  have hF32 := hF30.tr hF32
                  change R _ _ _ _ 88 528
                  refine us_if_eq hR dL_statement_329 345 (by decide) (fun c33 => ?_) (fun c33 => ?_)
                  · rw [if_pos c33] at ho
                    exact h13032_J345 x0 x1 x2 r20 1  T32 G32 _ _ h232 hF32 ho
                  · rw [if_neg c33] at ho
                    change R _ _ _ _ 88 528
                    refine us_aload_n hR dL_statement_332 rfl ?_
                    refine us_bipushC hR dL_statement_333 (c := 101) (by decide) ?_
                    refine us_callS hR dL_statement_335 (y := 13028) (by decide +kernel) (by decide) (J := i13028) rfl rfl rfl rfl (rest := _) (Nat.le_of_ble_eq_true rfl) (Nat.le_of_ble_eq_true rfl) (Nat.le_of_ble_eq_true rfl) ?_
                    obtain ⟨q34, hs34⟩ := bO_ex ho
                    obtain ⟨T34, r34⟩ := q34
                    replace ho := bO_go ho hs34
                    refine sh_13028 h232 hs34 (fun G34 hb34 h234 hF34 => ?_)
                    have hF34 := hF32.tr hF34
                    change R _ _ _ _ 86 516
                    refine us_if_eq hR dL_statement_338 345 (by decide) (fun c35 => ?_) (fun c35 => ?_)
                    · rw [if_pos c35] at ho
                      exact h13032_J345 x0 x1 x2 r20 1  T34 G34 _ _ h234 hF34 ho
                    · rw [if_neg c35] at ho
                      change R _ _ _ _ 86 516
                      refine us_iconstC hR dL_statement_341 (c := 1) (by decide) ?_
                      refine us_goto hR dL_statement_342 346 (by decide) ?_
                      exact h13032_J346 x0 x1 x2 r20 1 1  T34 G34 _ _ h234 hF34 ho
          · rw [if_pos c25] at ho
            change R _ _ _ _ 96 576
            refine us_aload_n hR dL_statement_270 rfl ?_
            refine us_bipushC hR dL_statement_271 (c := 105) (by decide) ?_
            refine us_callS hR dL_statement_273 (y := 13028) (by decide +kernel) (by decide) (J := i13028) rfl rfl rfl rfl (rest := _) (Nat.le_of_ble_eq_true rfl) (Nat.le_of_ble_eq_true rfl) (Nat.le_of_ble_eq_true rfl) ?_
            obtain ⟨q36, hs36⟩ := bO_ex ho
            obtain ⟨T36, r36⟩ := q36
            replace ho := bO_go ho hs36
            refine sh_13028 h2 hs36 (fun G36 hb36 h236 hF36 => ?_)
            have hF36 := hF.tr hF36
            change R _ _ _ _ 94 564
            refine us_if_eq hR dL_statement_276 292 (by decide) (fun c37 => ?_) (fun c37 => ?_)
            · rw [if_pos c37] at ho
              exact h13032_J292 x0 x1 x2 r20 1  T36 G36 _ _ h236 hF36 ho
            · rw [if_neg c37] at ho
              change R _ _ _ _ 94 564
              refine us_aload_n hR dL_statement_279 rfl ?_
              refine us_bipushC hR dL_statement_280 (c := 102) (by decide) ?_
              refine us_callS hR dL_statement_282 (y := 13028) (by decide +kernel) (by decide) (J := i13028) rfl rfl rfl rfl (rest := _) (Nat.le_of_ble_eq_true rfl) (Nat.le_of_ble_eq_true rfl) (Nat.le_of_ble_eq_true rfl) ?_
              obtain ⟨q38, hs38⟩ := bO_ex ho
              obtain ⟨T38, r38⟩ := q38
              replace ho := bO_go ho hs38
              refine sh_13028 h236 hs38 (fun G38 hb38 h238 hF38 => ?_)
              have hF38 := hF36.tr hF38
              change R _ _ _ _ 92 552
              refine us_if_eq hR dL_statement_285 292 (by decide) (fun c39 => ?_) (fun c39 => ?_)
              · rw [if_pos c39] at ho
                exact h13032_J292 x0 x1 x2 r20 1  T38 G38 _ _ h238 hF38 ho
              · rw [if_neg c39] at ho
                change R _ _ _ _ 92 552
                refine us_iconstC hR dL_statement_288 (c := 1) (by decide) ?_
                refine us_goto hR dL_statement_289 346 (by decide) ?_
                exact h13032_J346 x0 x1 x2 r20 1 1  T38 G38 _ _ h238 hF38 ho
        · rw [if_pos c24] at ho
          change R _ _ _ _ 96 576
          refine us_aload_n hR dL_statement_210 rfl ?_
          refine us_bipushC hR dL_statement_211 (c := 102) (by decide) ?_
          refine us_callS hR dL_statement_213 (y := 13028) (by decide +kernel) (by decide) (J := i13028) rfl rfl rfl rfl (rest := _) (Nat.le_of_ble_eq_true rfl) (Nat.le_of_ble_eq_true rfl) (Nat.le_of_ble_eq_true rfl) ?_
          obtain ⟨q40, hs40⟩ := bO_ex ho
          obtain ⟨T40, r40⟩ := q40
          replace ho := bO_go ho hs40
          refine sh_13028 h2 hs40 (fun G40 hb40 h240 hF40 => ?_)
          have hF40 := hF.tr hF40
          change R _ _ _ _ 94 564
          refine us_if_eq hR dL_statement_216 258 (by decide) (fun c41 => ?_) (fun c41 => ?_)
          · rw [if_pos c41] at ho
            exact h13032_J258 x0 x1 x2 r20 1  T40 G40 _ _ h240 hF40 ho
          · rw [if_neg c41] at ho
            change R _ _ _ _ 94 564
            refine us_aload_n hR dL_statement_219 rfl ?_
            refine us_bipushC hR dL_statement_220 (c := 40) (by decide) ?_
            refine us_callS hR dL_statement_222 (y := 13028) (by decide +kernel) (by decide) (J := i13028) rfl rfl rfl rfl (rest := _) (Nat.le_of_ble_eq_true rfl) (Nat.le_of_ble_eq_true rfl) (Nat.le_of_ble_eq_true rfl) ?_
            obtain ⟨q42, hs42⟩ := bO_ex ho
            obtain ⟨T42, r42⟩ := q42
            replace ho := bO_go ho hs42
            refine sh_13028 h240 hs42 (fun G42 hb42 h242 hF42 => ?_)
            have hF42 := hF40.tr hF42
            change R _ _ _ _ 92 552
            refine us_if_eq hR dL_statement_225 258 (by decide) (fun c43 => ?_) (fun c43 => ?_)
            · rw [if_pos c43] at ho
              exact h13032_J258 x0 x1 x2 r20 1  T42 G42 _ _ h242 hF42 ho
            · rw [if_neg c43] at ho
              change R _ _ _ _ 92 552
              refine us_aload_n hR dL_statement_228 rfl ?_
              refine us_iload_n hR dL_statement_229 rfl ?_
              refine us_callS hR dL_statement_230 (y := 13031) (by decide +kernel) (by decide) (J := i13031) rfl rfl rfl rfl (rest := _) (Nat.le_of_ble_eq_true rfl) (Nat.le_of_ble_eq_true rfl) (Nat.le_of_ble_eq_true rfl) ?_
              obtain ⟨q44, hs44⟩ := bO_ex ho
              obtain ⟨T44, r44⟩ := q44
              replace ho := bO_go ho hs44
              refine sh_13031 h242 hs44 (fun G44 hb44 h244 hF44 => ?_)
              have hF44 := hF42.tr hF44
              change R _ _ _ _ 60 360
              refine us_if_eq hR dL_statement_233 258 (by decide) (fun c45 => ?_) (fun c45 => ?_)
              · rw [if_pos c45] at ho
                exact h13032_J258 x0 x1 x2 r20 1  T44 G44 _ _ h244 hF44 ho
              · rw [if_neg c45] at ho
                change R _ _ _ _ 60 360
                refine us_aload_n hR dL_statement_236 rfl ?_
                refine us_bipushC hR dL_statement_237 (c := 41) (by decide) ?_
                refine us_callS hR dL_statement_239 (y := 13028) (by decide +kernel) (by decide) (J := i13028) rfl rfl rfl rfl (rest := _) (Nat.le_of_ble_eq_true rfl) (Nat.le_of_ble_eq_true rfl) (Nat.le_of_ble_eq_true rfl) ?_
                obtain ⟨q46, hs46⟩ := bO_ex ho
                obtain ⟨T46, r46⟩ := q46
                replace ho := bO_go ho hs46
                refine sh_13028 h244 hs46 (fun G46 hb46 h246 hF46 => ?_)
                have hF46 := hF44.tr hF46
                change R _ _ _ _ 58 348
                refine us_if_eq hR dL_statement_242 258 (by decide) (fun c47 => ?_) (fun c47 => ?_)
                · rw [if_pos c47] at ho
                  exact h13032_J258 x0 x1 x2 r20 1  T46 G46 _ _ h246 hF46 ho
                · rw [if_neg c47] at ho
                  change R _ _ _ _ 58 348
                  refine us_aload_n hR dL_statement_245 rfl ?_
                  refine us_bipushC hR dL_statement_246 (c := 59) (by decide) ?_
                  refine us_callS hR dL_statement_248 (y := 13028) (by decide +kernel) (by decide) (J := i13028) rfl rfl rfl rfl (rest := _) (Nat.le_of_ble_eq_true rfl) (Nat.le_of_ble_eq_true rfl) (Nat.le_of_ble_eq_true rfl) ?_
                  obtain ⟨q48, hs48⟩ := bO_ex ho
                  obtain ⟨T48, r48⟩ := q48
                  replace ho := bO_go ho hs48
                  refine sh_13028 h246 hs48 (fun G48 hb48 h248 hF48 => ?_)
                  have hF48 := hF46.tr hF48
                  change R _ _ _ _ 56 336
                  refine us_if_eq hR dL_statement_251 258 (by decide) (fun c49 => ?_) (fun c49 => ?_)
                  · rw [if_pos c49] at ho
                    exact h13032_J258 x0 x1 x2 r20 1  T48 G48 _ _ h248 hF48 ho
                  · rw [if_neg c49] at ho
                    change R _ _ _ _ 56 336
                    refine us_iconstC hR dL_statement_254 (c := 1) (by decide) ?_
                    refine us_goto hR dL_statement_255 259 (by decide) ?_
                    exact h13032_J259 x0 x1 x2 r20 1 1  T48 G48 _ _ h248 hF48 ho
      · rw [if_pos c23] at ho
        change R _ _ _ _ 96 576
        refine us_aload_n hR dL_statement_141 rfl ?_
        refine us_bipushC hR dL_statement_142 (c := 35) (by decide) ?_
        refine us_callS hR dL_statement_144 (y := 13028) (by decide +kernel) (by decide) (J := i13028) rfl rfl rfl rfl (rest := _) (Nat.le_of_ble_eq_true rfl) (Nat.le_of_ble_eq_true rfl) (Nat.le_of_ble_eq_true rfl) ?_
        obtain ⟨q50, hs50⟩ := bO_ex ho
        obtain ⟨T50, r50⟩ := q50
        replace ho := bO_go ho hs50
        refine sh_13028 h2 hs50 (fun G50 hb50 h250 hF50 => ?_)
        have hF50 := hF.tr hF50
        change R _ _ _ _ 94 564
        refine us_if_eq hR dL_statement_147 198 (by decide) (fun c51 => ?_) (fun c51 => ?_)
        · rw [if_pos c51] at ho
          exact h13032_J198 x0 x1 x2 r20 1  T50 G50 _ _ h250 hF50 ho
        · rw [if_neg c51] at ho
          change R _ _ _ _ 94 564
          refine us_aload_n hR dL_statement_150 rfl ?_
          refine us_bipushC hR dL_statement_151 (c := 48) (by decide) ?_
          refine us_iload_n hR dL_statement_153 rfl ?_
          refine us_iconstC hR dL_statement_154 (c := 4) (by decide) ?_
          refine us_ishr hR dL_statement_155 ?_
          refine us_bipushC hR dL_statement_156 (c := 10) (by decide) ?_
          refine us_callS hR dL_statement_158 (y := 13001) (by decide +kernel) (by decide) (J := i13001) rfl rfl rfl rfl (rest := _) (Nat.le_of_ble_eq_true rfl) (Nat.zero_le _) (Nat.zero_le _) ?_
          obtain ⟨r52, hr52⟩ := bP_ex ho
          replace ho := bP_go ho hr52
          refine sh_13001 h250 hr52 ?_
          refine us_iadd hR dL_statement_161 ?_
          refine us_callS hR dL_statement_162 (y := 13028) (by decide +kernel) (by decide) (J := i13028) rfl rfl rfl rfl (rest := _) (Nat.le_of_ble_eq_true rfl) (Nat.le_of_ble_eq_true rfl) (Nat.le_of_ble_eq_true rfl) ?_
          obtain ⟨q53, hs53⟩ := bO_ex ho
          obtain ⟨T53, r53⟩ := q53
          replace ho := bO_go ho hs53
          refine sh_13028 h250 hs53 (fun G53 hb53 h253 hF53 => ?_)
          have hF53 := hF50.tr hF53
          change R _ _ _ _ 92 552
          refine us_if_eq hR dL_statement_165 198 (by decide) (fun c54 => ?_) (fun c54 => ?_)
          · rw [if_pos c54] at ho
            exact h13032_J198 x0 x1 x2 r20 1  T53 G53 _ _ h253 hF53 ho
          · rw [if_neg c54] at ho
            change R _ _ _ _ 92 552
            refine us_aload_n hR dL_statement_168 rfl ?_
            refine us_bipushC hR dL_statement_169 (c := 61) (by decide) ?_
            refine us_callS hR dL_statement_171 (y := 13028) (by decide +kernel) (by decide) (J := i13028) rfl rfl rfl rfl (rest := _) (Nat.le_of_ble_eq_true rfl) (Nat.le_of_ble_eq_true rfl) (Nat.le_of_ble_eq_true rfl) ?_
            obtain ⟨q55, hs55⟩ := bO_ex ho
            obtain ⟨T55, r55⟩ := q55
            replace ho := bO_go ho hs55
            refine sh_13028 h253 hs55 (fun G55 hb55 h255 hF55 => ?_)
            have hF55 := hF53.tr hF55
            change R _ _ _ _ 90 540
            refine us_if_eq hR dL_statement_174 198 (by decide) (fun c56 => ?_) (fun c56 => ?_)
            · rw [if_pos c56] at ho
              exact h13032_J198 x0 x1 x2 r20 1  T55 G55 _ _ h255 hF55 ho
            · rw [if_neg c56] at ho
              change R _ _ _ _ 90 540
              refine us_aload_n hR dL_statement_177 rfl ?_
              refine us_iload_n hR dL_statement_178 rfl ?_
              refine us_callS hR dL_statement_179 (y := 13031) (by decide +kernel) (by decide) (J := i13031) rfl rfl rfl rfl (rest := _) (Nat.le_of_ble_eq_true rfl) (Nat.le_of_ble_eq_true rfl) (Nat.le_of_ble_eq_true rfl) ?_
              obtain ⟨q57, hs57⟩ := bO_ex ho
              obtain ⟨T57, r57⟩ := q57
              replace ho := bO_go ho hs57
              refine sh_13031 h255 hs57 (fun G57 hb57 h257 hF57 => ?_)
              have hF57 := hF55.tr hF57
              change R _ _ _ _ 58 348
              refine us_if_eq hR dL_statement_182 198 (by decide) (fun c58 => ?_) (fun c58 => ?_)
              · rw [if_pos c58] at ho
                exact h13032_J198 x0 x1 x2 r20 1  T57 G57 _ _ h257 hF57 ho
              · rw [if_neg c58] at ho
                change R _ _ _ _ 58 348
                refine us_aload_n hR dL_statement_185 rfl ?_
                refine us_bipushC hR dL_statement_186 (c := 59) (by decide) ?_
                refine us_callS hR dL_statement_188 (y := 13028) (by decide +kernel) (by decide) (J := i13028) rfl rfl rfl rfl (rest := _) (Nat.le_of_ble_eq_true rfl) (Nat.le_of_ble_eq_true rfl) (Nat.le_of_ble_eq_true rfl) ?_
                obtain ⟨q59, hs59⟩ := bO_ex ho
                obtain ⟨T59, r59⟩ := q59
                replace ho := bO_go ho hs59
                refine sh_13028 h257 hs59 (fun G59 hb59 h259 hF59 => ?_)
                have hF59 := hF57.tr hF59
                change R _ _ _ _ 56 336
                refine us_if_eq hR dL_statement_191 198 (by decide) (fun c60 => ?_) (fun c60 => ?_)
                · rw [if_pos c60] at ho
                  exact h13032_J198 x0 x1 x2 r20 1  T59 G59 _ _ h259 hF59 ho
                · rw [if_neg c60] at ho
                  change R _ _ _ _ 56 336
                  refine us_iconstC hR dL_statement_194 (c := 1) (by decide) ?_
                  refine us_goto hR dL_statement_195 199 (by decide) ?_
                  exact h13032_J199 x0 x1 x2 r20 1 1  T59 G59 _ _ h259 hF59 ho
    · rw [if_neg c22] at ho
      change R _ _ _ _ 96 576
      refine us_aload_n hR dL_statement_73 rfl ?_
      refine us_bipushC hR dL_statement_74 (c := 111) (by decide) ?_
      refine us_callS hR dL_statement_76 (y := 13028) (by decide +kernel) (by decide) (J := i13028) rfl rfl rfl rfl (rest := _) (Nat.le_of_ble_eq_true rfl) (Nat.le_of_ble_eq_true rfl) (Nat.le_of_ble_eq_true rfl) ?_
      obtain ⟨q61, hs61⟩ := bO_ex ho
      obtain ⟨T61, r61⟩ := q61
      replace ho := bO_go ho hs61
      refine sh_13028 h2 hs61 (fun G61 hb61 h261 hF61 => ?_)
      have hF61 := hF.tr hF61
      change R _ _ _ _ 94 564
      refine us_if_eq hR dL_statement_79 130 (by decide) (fun c62 => ?_) (fun c62 => ?_)
      · rw [if_pos c62] at ho
        exact h13032_J130 x0 x1 x2 r20 1  T61 G61 _ _ h261 hF61 ho
      · rw [if_neg c62] at ho
        change R _ _ _ _ 94 564
        refine us_aload_n hR dL_statement_82 rfl ?_
        refine us_bipushC hR dL_statement_83 (c := 117) (by decide) ?_
        refine us_callS hR dL_statement_85 (y := 13028) (by decide +kernel) (by decide) (J := i13028) rfl rfl rfl rfl (rest := _) (Nat.le_of_ble_eq_true rfl) (Nat.le_of_ble_eq_true rfl) (Nat.le_of_ble_eq_true rfl) ?_
        obtain ⟨q63, hs63⟩ := bO_ex ho
        obtain ⟨T63, r63⟩ := q63
        replace ho := bO_go ho hs63
        refine sh_13028 h261 hs63 (fun G63 hb63 h263 hF63 => ?_)
        have hF63 := hF61.tr hF63
        change R _ _ _ _ 92 552
        refine us_if_eq hR dL_statement_88 130 (by decide) (fun c64 => ?_) (fun c64 => ?_)
        · rw [if_pos c64] at ho
          exact h13032_J130 x0 x1 x2 r20 1  T63 G63 _ _ h263 hF63 ho
        · rw [if_neg c64] at ho
          change R _ _ _ _ 92 552
          refine us_aload_n hR dL_statement_91 rfl ?_
          refine us_bipushC hR dL_statement_92 (c := 116) (by decide) ?_
          refine us_callS hR dL_statement_94 (y := 13028) (by decide +kernel) (by decide) (J := i13028) rfl rfl rfl rfl (rest := _) (Nat.le_of_ble_eq_true rfl) (Nat.le_of_ble_eq_true rfl) (Nat.le_of_ble_eq_true rfl) ?_
          obtain ⟨q65, hs65⟩ := bO_ex ho
          obtain ⟨T65, r65⟩ := q65
          replace ho := bO_go ho hs65
          refine sh_13028 h263 hs65 (fun G65 hb65 h265 hF65 => ?_)
          have hF65 := hF63.tr hF65
          change R _ _ _ _ 90 540
          refine us_if_eq hR dL_statement_97 130 (by decide) (fun c66 => ?_) (fun c66 => ?_)
          · rw [if_pos c66] at ho
            exact h13032_J130 x0 x1 x2 r20 1  T65 G65 _ _ h265 hF65 ho
          · rw [if_neg c66] at ho
            change R _ _ _ _ 90 540
            refine us_aload_n hR dL_statement_100 rfl ?_
            refine us_bipushC hR dL_statement_101 (c := 32) (by decide) ?_
            refine us_callS hR dL_statement_103 (y := 13028) (by decide +kernel) (by decide) (J := i13028) rfl rfl rfl rfl (rest := _) (Nat.le_of_ble_eq_true rfl) (Nat.le_of_ble_eq_true rfl) (Nat.le_of_ble_eq_true rfl) ?_
            obtain ⟨q67, hs67⟩ := bO_ex ho
            obtain ⟨T67, r67⟩ := q67
            replace ho := bO_go ho hs67
            refine sh_13028 h265 hs67 (fun G67 hb67 h267 hF67 => ?_)
            have hF67 := hF65.tr hF67
            change R _ _ _ _ 88 528
            refine us_if_eq hR dL_statement_106 130 (by decide) (fun c68 => ?_) (fun c68 => ?_)
            · rw [if_pos c68] at ho
              exact h13032_J130 x0 x1 x2 r20 1  T67 G67 _ _ h267 hF67 ho
            · rw [if_neg c68] at ho
              change R _ _ _ _ 88 528
              refine us_aload_n hR dL_statement_109 rfl ?_
              refine us_iload_n hR dL_statement_110 rfl ?_
              refine us_callS hR dL_statement_111 (y := 13031) (by decide +kernel) (by decide) (J := i13031) rfl rfl rfl rfl (rest := _) (Nat.le_of_ble_eq_true rfl) (Nat.le_of_ble_eq_true rfl) (Nat.le_of_ble_eq_true rfl) ?_
              obtain ⟨q69, hs69⟩ := bO_ex ho
              obtain ⟨T69, r69⟩ := q69
              replace ho := bO_go ho hs69
              refine sh_13031 h267 hs69 (fun G69 hb69 h269 hF69 => ?_)
              have hF69 := hF67.tr hF69
              change R _ _ _ _ 56 336
              refine us_if_eq hR dL_statement_114 130 (by decide) (fun c70 => ?_) (fun c70 => ?_)
              · rw [if_pos c70] at ho
                exact h13032_J130 x0 x1 x2 r20 1  T69 G69 _ _ h269 hF69 ho
              · rw [if_neg c70] at ho
                change R _ _ _ _ 56 336
                refine us_aload_n hR dL_statement_117 rfl ?_
                refine us_bipushC hR dL_statement_118 (c := 59) (by decide) ?_
                refine us_callS hR dL_statement_120 (y := 13028) (by decide +kernel) (by decide) (J := i13028) rfl rfl rfl rfl (rest := _) (Nat.le_of_ble_eq_true rfl) (Nat.le_of_ble_eq_true rfl) (Nat.le_of_ble_eq_true rfl) ?_
                obtain ⟨q71, hs71⟩ := bO_ex ho
                obtain ⟨T71, r71⟩ := q71
                replace ho := bO_go ho hs71
                refine sh_13028 h269 hs71 (fun G71 hb71 h271 hF71 => ?_)
                have hF71 := hF69.tr hF71
                change R _ _ _ _ 54 324
                refine us_if_eq hR dL_statement_123 130 (by decide) (fun c72 => ?_) (fun c72 => ?_)
                · rw [if_pos c72] at ho
                  exact h13032_J130 x0 x1 x2 r20 1  T71 G71 _ _ h271 hF71 ho
                · rw [if_neg c72] at ho
                  change R _ _ _ _ 54 324
                  refine us_iconstC hR dL_statement_126 (c := 1) (by decide) ?_
                  refine us_goto hR dL_statement_127 131 (by decide) ?_
                  exact h13032_J131 x0 x1 x2 r20 1 1  T71 G71 _ _ h271 hF71 ho
  · rw [if_neg c21] at ho
    change R _ _ _ _ 96 576
    refine us_aload_n hR dL_statement_15 rfl ?_
    refine us_bipushC hR dL_statement_16 (c := 97) (by decide) ?_
    refine us_iload_n hR dL_statement_18 rfl ?_
    refine us_iconstC hR dL_statement_19 (c := 4) (by decide) ?_
    refine us_ishr hR dL_statement_20 ?_
    refine us_iconstC hR dL_statement_21 (c := 4) (by decide) ?_
    refine us_callS hR dL_statement_22 (y := 13001) (by decide +kernel) (by decide) (J := i13001) rfl rfl rfl rfl (rest := _) (Nat.le_of_ble_eq_true rfl) (Nat.zero_le _) (Nat.zero_le _) ?_
    obtain ⟨r73, hr73⟩ := bP_ex ho
    replace ho := bP_go ho hr73
    refine sh_13001 h2 hr73 ?_
    refine us_iadd hR dL_statement_25 ?_
    refine us_callS hR dL_statement_26 (y := 13028) (by decide +kernel) (by decide) (J := i13028) rfl rfl rfl rfl (rest := _) (Nat.le_of_ble_eq_true rfl) (Nat.le_of_ble_eq_true rfl) (Nat.le_of_ble_eq_true rfl) ?_
    obtain ⟨q74, hs74⟩ := bO_ex ho
    obtain ⟨T74, r74⟩ := q74
    replace ho := bO_go ho hs74
    refine sh_13028 h2 hs74 (fun G74 hb74 h274 hF74 => ?_)
    have hF74 := hF.tr hF74
    change R _ _ _ _ 94 564
    refine us_if_eq hR dL_statement_29 62 (by decide) (fun c75 => ?_) (fun c75 => ?_)
    · rw [if_pos c75] at ho
      exact h13032_J62 x0 x1 x2 r20 1  T74 G74 _ _ h274 hF74 ho
    · rw [if_neg c75] at ho
      change R _ _ _ _ 94 564
      refine us_aload_n hR dL_statement_32 rfl ?_
      refine us_bipushC hR dL_statement_33 (c := 61) (by decide) ?_
      refine us_callS hR dL_statement_35 (y := 13028) (by decide +kernel) (by decide) (J := i13028) rfl rfl rfl rfl (rest := _) (Nat.le_of_ble_eq_true rfl) (Nat.le_of_ble_eq_true rfl) (Nat.le_of_ble_eq_true rfl) ?_
      obtain ⟨q76, hs76⟩ := bO_ex ho
      obtain ⟨T76, r76⟩ := q76
      replace ho := bO_go ho hs76
      refine sh_13028 h274 hs76 (fun G76 hb76 h276 hF76 => ?_)
      have hF76 := hF74.tr hF76
      change R _ _ _ _ 92 552
      refine us_if_eq hR dL_statement_38 62 (by decide) (fun c77 => ?_) (fun c77 => ?_)
      · rw [if_pos c77] at ho
        exact h13032_J62 x0 x1 x2 r20 1  T76 G76 _ _ h276 hF76 ho
      · rw [if_neg c77] at ho
        change R _ _ _ _ 92 552
        refine us_aload_n hR dL_statement_41 rfl ?_
        refine us_iload_n hR dL_statement_42 rfl ?_
        refine us_callS hR dL_statement_43 (y := 13031) (by decide +kernel) (by decide) (J := i13031) rfl rfl rfl rfl (rest := _) (Nat.le_of_ble_eq_true rfl) (Nat.le_of_ble_eq_true rfl) (Nat.le_of_ble_eq_true rfl) ?_
        obtain ⟨q78, hs78⟩ := bO_ex ho
        obtain ⟨T78, r78⟩ := q78
        replace ho := bO_go ho hs78
        refine sh_13031 h276 hs78 (fun G78 hb78 h278 hF78 => ?_)
        have hF78 := hF76.tr hF78
        change R _ _ _ _ 60 360
        refine us_if_eq hR dL_statement_46 62 (by decide) (fun c79 => ?_) (fun c79 => ?_)
        · rw [if_pos c79] at ho
          exact h13032_J62 x0 x1 x2 r20 1  T78 G78 _ _ h278 hF78 ho
        · rw [if_neg c79] at ho
          change R _ _ _ _ 60 360
          refine us_aload_n hR dL_statement_49 rfl ?_
          refine us_bipushC hR dL_statement_50 (c := 59) (by decide) ?_
          refine us_callS hR dL_statement_52 (y := 13028) (by decide +kernel) (by decide) (J := i13028) rfl rfl rfl rfl (rest := _) (Nat.le_of_ble_eq_true rfl) (Nat.le_of_ble_eq_true rfl) (Nat.le_of_ble_eq_true rfl) ?_
          obtain ⟨q80, hs80⟩ := bO_ex ho
          obtain ⟨T80, r80⟩ := q80
          replace ho := bO_go ho hs80
          refine sh_13028 h278 hs80 (fun G80 hb80 h280 hF80 => ?_)
          have hF80 := hF78.tr hF80
          change R _ _ _ _ 58 348
          refine us_if_eq hR dL_statement_55 62 (by decide) (fun c81 => ?_) (fun c81 => ?_)
          · rw [if_pos c81] at ho
            exact h13032_J62 x0 x1 x2 r20 1  T80 G80 _ _ h280 hF80 ho
          · rw [if_neg c81] at ho
            change R _ _ _ _ 58 348
            refine us_iconstC hR dL_statement_58 (c := 1) (by decide) ?_
            refine us_goto hR dL_statement_59 63 (by decide) ?_
            exact h13032_J63 x0 x1 x2 r20 1 1  T80 G80 _ _ h280 hF80 ho
end
