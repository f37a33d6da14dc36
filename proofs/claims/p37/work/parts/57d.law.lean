/-! the law: marks, handing in, accusing -/
noncomputable section
def l_13037_J164 (l0 : Nat) (l1 : Nat) (l2 : Int32) (l3 : Nat) (l4 : Int32) (l5 : Nat) (l6 : Int32) (l7 : Int32) (l8 : Int32) (l9 : Int32) (l10 : Int32) (k0 : Int32) (bc bs : Nat) (S : Lx) : Option Int32 :=
  if l5 = 0 then
    gd (vi l4 (S.2 l3).length) <|
    if (xg (S.2 l3) l4) ≤ 65535 then
      gd (¬ (100 : Int32) = 0) <|
      some ((k0 * (100 - l10)) / 100)
    else
      some 0
  else
    some k0
def l_13037_J145 (l0 : Nat) (l1 : Nat) (l2 : Int32) (l3 : Nat) (l4 : Int32) (l5 : Nat) (l6 : Int32) (l7 : Int32) (l8 : Int32) (l9 : Int32) (k0 : Int32) (bc bs : Nat) (S : Lx) : Option Int32 :=
  if l7 = 0 then
    l_13037_J164 l0 l1 l2 l3 l4 l5 l6 l7 l8 l9 k0 0 bc bs S
  else
    gd (¬ (l7 : Int32) = 0) <|
    l_13037_J164 l0 l1 l2 l3 l4 l5 l6 l7 l8 l9 k0 ((100 * l8) / l7) bc bs S
def l_13037_J60 (k20 : Nat → Nat → Int32 → Nat → Int32 → Nat → Int32 → Int32 → Int32 → Int32 → Nat → Nat → Lx → Option Int32) (l0 : Nat) (l1 : Nat) (l2 : Int32) (l3 : Nat) (l4 : Int32) (l5 : Nat) (l6 : Int32) (l7 : Int32) (l8 : Int32) (l9 : Int32) (k0 : Int32) (bc bs : Nat) (S : Lx) : Option Int32 :=
  gd (tK S.1 l0 = 12) <|
  gd ((2 : Nat) ≤ bc ∧ 12 ≤ bs) <|
  bP (h_13015 l0 l4 l9 S.1) fun r4 =>
  if r4 = 1 then
    k20 l0 l1 l2 l3 l4 l5 l6 (l7 + k0) (l8 + k0) (l9 + 1) (bc - 2) (bs - 12) S
  else
    k20 l0 l1 l2 l3 l4 l5 l6 (l7 + k0) (l8 + 0) (l9 + 1) (bc - 2) (bs - 12) S
def l_13037_L20 : Nat → Nat → Nat → Int32 → Nat → Int32 → Nat → Int32 → Int32 → Int32 → Int32 → Nat → Nat → Lx → Option Int32
  | 0, _, _, _, _, _, _, _, _, _, _, _, _, _ => none
  | n + 1, l0, l1, l2, l3, l4, l5, l6, l7, l8, l9, bc, bs, S =>
    gd (vi (4 + l6) (S.2 l2).length) <|
    if (xg (S.2 l2) (4 + l6)) ≤ l9 then
      gd (vi l4 (S.2 l3).length) <|
      gd (¬ (32 : Int32) = 0) <|
      gd (¬ (2048 : Int32) = 0) <|
      gd (vi l6 (S.2 l2).length) <|
      gd (¬ (4096 : Int32) = 0) <|
      if 0 ≤ ((((xg (S.2 l3) l4) / 32) % 2048) - ((xg (S.2 l2) l6) / 4096)) then
        if ((((xg (S.2 l3) l4) / 32) % 2048) - ((xg (S.2 l2) l6) / 4096)) ≤ 5 then
          l_13037_J145 l0 l1 l2 l3 l4 l5 l6 l7 l8 ((((xg (S.2 l3) l4) / 32) % 2048) - ((xg (S.2 l2) l6) / 4096)) (10 * ((((xg (S.2 l3) l4) / 32) % 2048) - ((xg (S.2 l2) l6) / 4096))) bc bs S
        else
          l_13037_J145 l0 l1 l2 l3 l4 l5 l6 l7 l8 ((((xg (S.2 l3) l4) / 32) % 2048) - ((xg (S.2 l2) l6) / 4096)) 50 bc bs S
      else
        l_13037_J145 l0 l1 l2 l3 l4 l5 l6 l7 l8 ((((xg (S.2 l3) l4) / 32) % 2048) - ((xg (S.2 l2) l6) / 4096)) 0 bc bs S
    else
      gd (vi ((8 * l6) + l9) (S.2 l1).length) <|
      if (xg (S.2 l1) ((8 * l6) + l9)) ≤ 15 then
        gd (vi ((8 * l6) + l9) (S.2 l1).length) <|
        l_13037_J60 (l_13037_L20 n) l0 l1 l2 l3 l4 l5 l6 l7 l8 l9 (xg (S.2 l1) ((8 * l6) + l9)) bc bs S
      else
        l_13037_J60 (l_13037_L20 n) l0 l1 l2 l3 l4 l5 l6 l7 l8 l9 0 bc bs S
def l_13037 (x0 : Nat) (x1 : Nat) (x2 : Int32) (x3 : Nat) (x4 : Int32) (x5 : Nat) (x6 : Int32) (x7 : Int32) (x8 : Int32) (S : Lx) : Option Int32 :=
  gd (vi x4 (S.2 x3).length) <|
  gd (¬ (8 : Int32) = 0) <|
  gd (¬ (4 : Int32) = 0) <|
  l_13037_L20 12 x0 x1 x2 x3 x4 x5 (((xg (S.2 x3) x4) / 8) % 4) 0 0 0 18 108 S
set_option maxRecDepth 8000 in
theorem sl_13037 {d : Nat} {G : ab_G} {S : Lx} {P : ab_Pq} {X : ab_Xq} (h2 : LRep G S) {x0 : Nat} {x1 : Nat} {x2 : Int32} {x3 : Nat} {x4 : Int32} {x5 : Nat} {x6 : Int32} {x7 : Int32} {x8 : Int32} {o : Int32} (ho : l_13037 x0 x1 x2 x3 x4 x5 x6 x7 x8 S = some o) (h : P G (some (.int o))) : ab_Gam (d + 46) 13037 [.ref x0, .ref x1, .int x2, .ref x3, .int x4, .ref x5, .int x6, .int x7, .int x8] G P X := by
  unfold l_13037 at ho
  refine ab_enter (I := i13037) rfl (Nat.le_of_ble_eq_true rfl) (fun R hR => ?_)
  have h13037_J164 : ∀ (l0 : Nat) (l1 : Nat) (l2 : Int32) (l3 : Nat) (l4 : Int32) (l5 : Nat) (l6 : Int32) (l7 : Int32) (l8 : Int32) (l9 : Int32) (l10 : Int32) (k0 : Int32)  (bc bs : Nat) (ho : l_13037_J164 l0 l1 l2 l3 l4 l5 l6 l7 l8 l9 l10 k0 bc bs S = some o), R 164 [some (.ref l0), some (.ref l1), some (.int l2), some (.ref l3), some (.int l4), some (.ref l5), some (.int l6), some (.int l7), some (.int l8), some (.int l9), some (.int l10), none] [.int k0] G bc bs := by
    intro l0 l1 l2 l3 l4 l5 l6 l7 l8 l9 l10 k0  bc bs ho
    unfold l_13037_J164 at ho
    refine us_istore hR dL_markOf_164 (Nat.le_of_ble_eq_true rfl) ?_
    refine us_iload hR dL_markOf_166 rfl ?_
    refine us_if_eq hR dL_markOf_168 176 (by decide) (fun c1 => ?_) (fun c1 => ?_)
    · rw [if_pos c1] at ho
      refine us_aload_n hR dL_markOf_176 rfl ?_
      refine us_iload hR dL_markOf_177 rfl ?_
      have hg := gd_c ho
      rw [gd_e hg] at ho
      refine ul_iaload h2 hg hR dL_markOf_179 ?_
      refine us_ldc hR dL_markOf_180 (v := 65535) (by decide +kernel) ?_
      refine us_icmp_le hR dL_markOf_182 189 (by decide) (fun c2 => ?_) (fun c2 => ?_)
      · rw [if_pos c2] at ho
        refine us_iload hR dL_markOf_189 rfl ?_
        refine us_bipushC hR dL_markOf_191 (c := 100) (by decide) ?_
        refine us_iload hR dL_markOf_193 rfl ?_
        refine us_isub hR dL_markOf_195 ?_
        refine us_imul hR dL_markOf_196 ?_
        refine us_bipushC hR dL_markOf_197 (c := 100) (by decide) ?_
        have hg := gd_c ho
        rw [gd_e hg] at ho
        refine us_idiv hR dL_markOf_199 hg ?_
        refine us_iret hR dL_markOf_200 rfl rfl ?_
        cases ho
        exact h
      · rw [if_neg c2] at ho
        refine us_iconstC hR dL_markOf_185 (c := 0) (by decide) ?_
        refine us_goto hR dL_markOf_186 200 (by decide) ?_
        refine us_iret hR dL_markOf_200 rfl rfl ?_
        cases ho
        exact h
    · rw [if_neg c1] at ho
      refine us_iload hR dL_markOf_171 rfl ?_
      refine us_goto hR dL_markOf_173 200 (by decide) ?_
      refine us_iret hR dL_markOf_200 rfl rfl ?_
      cases ho
      exact h
  have h13037_J145 : ∀ (l0 : Nat) (l1 : Nat) (l2 : Int32) (l3 : Nat) (l4 : Int32) (l5 : Nat) (l6 : Int32) (l7 : Int32) (l8 : Int32) (l9 : Int32) (k0 : Int32) (w10 : Option Value) (bc bs : Nat) (ho : l_13037_J145 l0 l1 l2 l3 l4 l5 l6 l7 l8 l9 k0 bc bs S = some o), R 145 [some (.ref l0), some (.ref l1), some (.int l2), some (.ref l3), some (.int l4), some (.ref l5), some (.int l6), some (.int l7), some (.int l8), some (.int l9), w10, none] [.int k0] G bc bs := by
    intro l0 l1 l2 l3 l4 l5 l6 l7 l8 l9 k0 w10 bc bs ho
    unfold l_13037_J145 at ho
    refine us_istore hR dL_markOf_145 (Nat.le_of_ble_eq_true rfl) ?_
    refine us_iload hR dL_markOf_147 rfl ?_
    refine us_if_ne hR dL_markOf_149 156 (by decide) (fun c3 => ?_) (fun c3 => ?_)
    · rw [if_neg c3] at ho
      refine us_bipushC hR dL_markOf_156 (c := 100) (by decide) ?_
      refine us_iload hR dL_markOf_158 rfl ?_
      refine us_imul hR dL_markOf_160 ?_
      refine us_iload hR dL_markOf_161 rfl ?_
      have hg := gd_c ho
      rw [gd_e hg] at ho
      refine us_idiv hR dL_markOf_163 hg ?_
      exact h13037_J164 l0 l1 l2 l3 l4 l5 l6 l7 l8 l9 k0 ((100 * l8) / l7)  _ _ ho
    · rw [if_pos c3] at ho
      refine us_iconstC hR dL_markOf_152 (c := 0) (by decide) ?_
      refine us_goto hR dL_markOf_153 164 (by decide) ?_
      exact h13037_J164 l0 l1 l2 l3 l4 l5 l6 l7 l8 l9 k0 0  _ _ ho
  have h13037_L20 : ∀ (n : Nat) (l0 : Nat) (l1 : Nat) (l2 : Int32) (l3 : Nat) (l4 : Int32) (l5 : Nat) (l6 : Int32) (l7 : Int32) (l8 : Int32) (l9 : Int32) (w10 : Option Value) (bc bs : Nat) (ho : l_13037_L20 n l0 l1 l2 l3 l4 l5 l6 l7 l8 l9 bc bs S = some o), R 20 [some (.ref l0), some (.ref l1), some (.int l2), some (.ref l3), some (.int l4), some (.ref l5), some (.int l6), some (.int l7), some (.int l8), some (.int l9), w10, none] [] G bc bs := by
    intro n
    induction n with
    | zero => intro l0 l1 l2 l3 l4 l5 l6 l7 l8 l9 w10 bc bs ho; exact absurd ho (by intro hc; cases hc)
    | succ n20 ih20 =>
      have h13037_J60 : ∀ (l0 : Nat) (l1 : Nat) (l2 : Int32) (l3 : Nat) (l4 : Int32) (l5 : Nat) (l6 : Int32) (l7 : Int32) (l8 : Int32) (l9 : Int32) (k0 : Int32) (w10 : Option Value) (bc bs : Nat) (ho : l_13037_J60 (l_13037_L20 n20) l0 l1 l2 l3 l4 l5 l6 l7 l8 l9 k0 bc bs S = some o), R 60 [some (.ref l0), some (.ref l1), some (.int l2), some (.ref l3), some (.int l4), some (.ref l5), some (.int l6), some (.int l7), some (.int l8), some (.int l9), w10, none] [.int k0] G bc bs := by
        intro l0 l1 l2 l3 l4 l5 l6 l7 l8 l9 k0 w10 bc bs ho
        unfold l_13037_J60 at ho
        refine us_istore hR dL_markOf_60 (Nat.le_of_ble_eq_true rfl) ?_
        refine us_iload hR dL_markOf_62 rfl ?_
        refine us_iload hR dL_markOf_64 rfl ?_
        refine us_iadd hR dL_markOf_66 ?_
        refine us_istore hR dL_markOf_67 (Nat.le_of_ble_eq_true rfl) ?_
        refine us_iload hR dL_markOf_69 rfl ?_
        refine us_aload_n hR dL_markOf_71 rfl ?_
        refine us_iload hR dL_markOf_72 rfl ?_
        refine us_iload hR dL_markOf_74 rfl ?_
        have hg := gd_c ho
        rw [gd_e hg] at ho
        have hme := hg
        have hb := gd_c ho
        rw [gd_e hb] at ho
        refine us_callS hR dL_markOf_76 (y := 13015) (by decide +kernel) (by decide) (J := i13015) rfl rfl rfl rfl (rest := _) (Nat.le_of_ble_eq_true rfl) hb.1 hb.2 ?_
        obtain ⟨r4, hr4⟩ := bP_ex ho
        replace ho := bP_go ho hr4
        refine sh_13015 h2.1 hme hr4 ?_
        refine us_iconstC hR dL_markOf_79 (c := 1) (by decide) ?_
        refine us_icmp_ne hR dL_markOf_80 88 (by decide) (fun c5 => ?_) (fun c5 => ?_)
        · rw [if_neg c5] at ho
          refine us_iconstC hR dL_markOf_88 (c := 0) (by decide) ?_
          refine us_iadd hR dL_markOf_89 ?_
          refine us_istore hR dL_markOf_90 (Nat.le_of_ble_eq_true rfl) ?_
          refine us_iincC hR dL_markOf_92 rfl (Nat.le_of_ble_eq_true rfl) (c := 1) (by decide) ?_
          refine us_goto hR dL_markOf_95 20 (by decide) ?_
          exact ih20 l0 l1 l2 l3 l4 l5 l6 (l7 + k0) (l8 + 0) (l9 + 1) _ _ _ ho
        · rw [if_pos c5] at ho
          refine us_iload hR dL_markOf_83 rfl ?_
          refine us_goto hR dL_markOf_85 89 (by decide) ?_
          refine us_iadd hR dL_markOf_89 ?_
          refine us_istore hR dL_markOf_90 (Nat.le_of_ble_eq_true rfl) ?_
          refine us_iincC hR dL_markOf_92 rfl (Nat.le_of_ble_eq_true rfl) (c := 1) (by decide) ?_
          refine us_goto hR dL_markOf_95 20 (by decide) ?_
          exact ih20 l0 l1 l2 l3 l4 l5 l6 (l7 + k0) (l8 + k0) (l9 + 1) _ _ _ ho
      intro l0 l1 l2 l3 l4 l5 l6 l7 l8 l9 w10 bc bs ho
      rw [l_13037_L20] at ho
      refine us_iload hR dL_markOf_20 rfl ?_
      refine us_aload_n hR dL_markOf_22 rfl ?_
      refine us_iconstC hR dL_markOf_23 (c := 4) (by decide) ?_
      refine us_iload hR dL_markOf_24 rfl ?_
      refine us_iadd hR dL_markOf_26 ?_
      have hg := gd_c ho
      rw [gd_e hg] at ho
      refine ul_iaload h2 hg hR dL_markOf_27 ?_
      refine us_icmp_ge hR dL_markOf_28 98 (by decide) (fun c6 => ?_) (fun c6 => ?_)
      · rw [if_pos c6] at ho
        refine us_aload_n hR dL_markOf_98 rfl ?_
        refine us_iload hR dL_markOf_99 rfl ?_
        have hg := gd_c ho
        rw [gd_e hg] at ho
        refine ul_iaload h2 hg hR dL_markOf_101 ?_
        refine us_bipushC hR dL_markOf_102 (c := 32) (by decide) ?_
        have hg := gd_c ho
        rw [gd_e hg] at ho
        refine us_idiv hR dL_markOf_104 hg ?_
        refine us_sipushC hR dL_markOf_105 (c := 2048) (by decide) ?_
        have hg := gd_c ho
        rw [gd_e hg] at ho
        refine us_irem hR dL_markOf_108 hg ?_
        refine us_aload_n hR dL_markOf_109 rfl ?_
        refine us_iload hR dL_markOf_110 rfl ?_
        have hg := gd_c ho
        rw [gd_e hg] at ho
        refine ul_iaload h2 hg hR dL_markOf_112 ?_
        refine us_sipushC hR dL_markOf_113 (c := 4096) (by decide) ?_
        have hg := gd_c ho
        rw [gd_e hg] at ho
        refine us_idiv hR dL_markOf_116 hg ?_
        refine us_isub hR dL_markOf_117 ?_
        refine us_istore hR dL_markOf_118 (Nat.le_of_ble_eq_true rfl) ?_
        refine us_iload hR dL_markOf_120 rfl ?_
        refine us_if_ge hR dL_markOf_122 129 (by decide) (fun c7 => ?_) (fun c7 => ?_)
        · rw [if_pos c7] at ho
          refine us_iload hR dL_markOf_129 rfl ?_
          refine us_iconstC hR dL_markOf_131 (c := 5) (by decide) ?_
          refine us_icmp_le hR dL_markOf_132 140 (by decide) (fun c8 => ?_) (fun c8 => ?_)
          · rw [if_pos c8] at ho
            refine us_bipushC hR dL_markOf_140 (c := 10) (by decide) ?_
            refine us_iload hR dL_markOf_142 rfl ?_
            refine us_imul hR dL_markOf_144 ?_
            exact h13037_J145 l0 l1 l2 l3 l4 l5 l6 l7 l8 ((((xg (S.2 l3) l4) / 32) % 2048) - ((xg (S.2 l2) l6) / 4096)) (10 * ((((xg (S.2 l3) l4) / 32) % 2048) - ((xg (S.2 l2) l6) / 4096))) _ _ _ ho
          · rw [if_neg c8] at ho
            refine us_bipushC hR dL_markOf_135 (c := 50) (by decide) ?_
            refine us_goto hR dL_markOf_137 145 (by decide) ?_
            exact h13037_J145 l0 l1 l2 l3 l4 l5 l6 l7 l8 ((((xg (S.2 l3) l4) / 32) % 2048) - ((xg (S.2 l2) l6) / 4096)) 50 _ _ _ ho
        · rw [if_neg c7] at ho
          refine us_iconstC hR dL_markOf_125 (c := 0) (by decide) ?_
          refine us_goto hR dL_markOf_126 145 (by decide) ?_
          exact h13037_J145 l0 l1 l2 l3 l4 l5 l6 l7 l8 ((((xg (S.2 l3) l4) / 32) % 2048) - ((xg (S.2 l2) l6) / 4096)) 0 _ _ _ ho
      · rw [if_neg c6] at ho
        refine us_aload_n hR dL_markOf_31 rfl ?_
        refine us_bipushC hR dL_markOf_32 (c := 8) (by decide) ?_
        refine us_iload hR dL_markOf_34 rfl ?_
        refine us_imul hR dL_markOf_36 ?_
        refine us_iload hR dL_markOf_37 rfl ?_
        refine us_iadd hR dL_markOf_39 ?_
        have hg := gd_c ho
        rw [gd_e hg] at ho
        refine ul_iaload h2 hg hR dL_markOf_40 ?_
        refine us_bipushC hR dL_markOf_41 (c := 15) (by decide) ?_
        refine us_icmp_le hR dL_markOf_43 50 (by decide) (fun c9 => ?_) (fun c9 => ?_)
        · rw [if_pos c9] at ho
          refine us_aload_n hR dL_markOf_50 rfl ?_
          refine us_bipushC hR dL_markOf_51 (c := 8) (by decide) ?_
          refine us_iload hR dL_markOf_53 rfl ?_
          refine us_imul hR dL_markOf_55 ?_
          refine us_iload hR dL_markOf_56 rfl ?_
          refine us_iadd hR dL_markOf_58 ?_
          have hg := gd_c ho
          rw [gd_e hg] at ho
          refine ul_iaload h2 hg hR dL_markOf_59 ?_
          exact h13037_J60 l0 l1 l2 l3 l4 l5 l6 l7 l8 l9 (xg (S.2 l1) ((8 * l6) + l9)) _ _ _ ho
        · rw [if_neg c9] at ho
          refine us_iconstC hR dL_markOf_46 (c := 0) (by decide) ?_
          refine us_goto hR dL_markOf_47 60 (by decide) ?_
          exact h13037_J60 l0 l1 l2 l3 l4 l5 l6 l7 l8 l9 0 _ _ _ ho
  change R _ _ _ _ 18 108
  refine us_aload_n hR dL_markOf_0 rfl ?_
  refine us_iload hR dL_markOf_1 rfl ?_
  have hg := gd_c ho
  rw [gd_e hg] at ho
  refine ul_iaload h2 hg hR dL_markOf_3 ?_
  refine us_bipushC hR dL_markOf_4 (c := 8) (by decide) ?_
  have hg := gd_c ho
  rw [gd_e hg] at ho
  refine us_idiv hR dL_markOf_6 hg ?_
  refine us_iconstC hR dL_markOf_7 (c := 4) (by decide) ?_
  have hg := gd_c ho
  rw [gd_e hg] at ho
  refine us_irem hR dL_markOf_8 hg ?_
  refine us_istore hR dL_markOf_9 (Nat.le_of_ble_eq_true rfl) ?_
  refine us_iconstC hR dL_markOf_11 (c := 0) (by decide) ?_
  refine us_istore hR dL_markOf_12 (Nat.le_of_ble_eq_true rfl) ?_
  refine us_iconstC hR dL_markOf_14 (c := 0) (by decide) ?_
  refine us_istore hR dL_markOf_15 (Nat.le_of_ble_eq_true rfl) ?_
  refine us_iconstC hR dL_markOf_17 (c := 0) (by decide) ?_
  refine us_istore hR dL_markOf_18 (Nat.le_of_ble_eq_true rfl) ?_
  exact h13037_L20 _ x0 x1 x2 x3 x4 x5 (((xg (S.2 x3) x4) / 8) % 4) 0 0 0 _ _ _ ho
def l_13038_J237 (k166 : Nat → Nat → Int32 → Nat → Int32 → Nat → Int32 → Int32 → Int32 → Int32 → Nat → Nat → Lx → Option (Lx × Int32)) (k183 : Nat → Nat → Int32 → Nat → Int32 → Nat → Int32 → Int32 → Int32 → Int32 → Int32 → Int32 → Nat → Nat → Lx → Option (Lx × Int32)) (l0 : Nat) (l1 : Nat) (l2 : Int32) (l3 : Nat) (l4 : Int32) (l5 : Nat) (l6 : Int32) (l7 : Int32) (l8 : Int32) (l9 : Int32) (l10 : Int32) (l11 : Int32) (l12 : Int32) (k0 : Int32) (k1 : Int32) (bc bs : Nat) (S : Lx) : Option (Lx × Int32) :=
  if l12 = 0 then
    k183 l0 l1 l2 l3 l4 l5 l6 l7 l8 l9 (k1 + k0) (l11 + 1) bc bs S
  else
    gd (tK S.1 l0 = 12) <|
    gd ((2 : Nat) ≤ bc ∧ 12 ≤ bs) <|
    bP (h_13015 l0 l11 l9 S.1) fun r2 =>
    if r2 = 1 then
      gd (tK S.1 l0 = 12) <|
      gd ((2 : Nat) ≤ (bc - 2) ∧ 12 ≤ (bs - 12)) <|
      bP (h_13016 l0 l11 l9 S.1) fun r4 =>
      if r4 = 0 then
        k183 l0 l1 l2 l3 l4 l5 l6 l7 l8 l9 (k1 + k0) (l11 + 1) ((bc - 2) - 2) ((bs - 12) - 12) S
      else
        some (S, 0)
    else
      k183 l0 l1 l2 l3 l4 l5 l6 l7 l8 l9 (k1 + k0) (l11 + 1) (bc - 2) (bs - 12) S
def l_13038_J236 (k166 : Nat → Nat → Int32 → Nat → Int32 → Nat → Int32 → Int32 → Int32 → Int32 → Nat → Nat → Lx → Option (Lx × Int32)) (k183 : Nat → Nat → Int32 → Nat → Int32 → Nat → Int32 → Int32 → Int32 → Int32 → Int32 → Int32 → Nat → Nat → Lx → Option (Lx × Int32)) (l0 : Nat) (l1 : Nat) (l2 : Int32) (l3 : Nat) (l4 : Int32) (l5 : Nat) (l6 : Int32) (l7 : Int32) (l8 : Int32) (l9 : Int32) (l10 : Int32) (l11 : Int32) (l12 : Int32) (k0 : Int32) (bc bs : Nat) (S : Lx) : Option (Lx × Int32) :=
  l_13038_J237 k166 k183 l0 l1 l2 l3 l4 l5 l6 l7 l8 l9 l10 l11 l12 0 k0 bc bs S
def l_13038_J211 (k166 : Nat → Nat → Int32 → Nat → Int32 → Nat → Int32 → Int32 → Int32 → Int32 → Nat → Nat → Lx → Option (Lx × Int32)) (k183 : Nat → Nat → Int32 → Nat → Int32 → Nat → Int32 → Int32 → Int32 → Int32 → Int32 → Int32 → Nat → Nat → Lx → Option (Lx × Int32)) (l0 : Nat) (l1 : Nat) (l2 : Int32) (l3 : Nat) (l4 : Int32) (l5 : Nat) (l6 : Int32) (l7 : Int32) (l8 : Int32) (l9 : Int32) (l10 : Int32) (l11 : Int32) (k0 : Int32) (bc bs : Nat) (S : Lx) : Option (Lx × Int32) :=
  if k0 = 0 then
    l_13038_J236 k166 k183 l0 l1 l2 l3 l4 l5 l6 l7 l8 l9 l10 l11 k0 l10 bc bs S
  else
    gd (tK S.1 l0 = 12) <|
    gd ((2 : Nat) ≤ bc ∧ 12 ≤ bs) <|
    bP (h_13015 l0 l11 l9 S.1) fun r7 =>
    if r7 = 1 then
      l_13038_J237 k166 k183 l0 l1 l2 l3 l4 l5 l6 l7 l8 l9 l10 l11 k0 1 l10 (bc - 2) (bs - 12) S
    else
      l_13038_J236 k166 k183 l0 l1 l2 l3 l4 l5 l6 l7 l8 l9 l10 l11 k0 l10 (bc - 2) (bs - 12) S
def l_13038_L183 (k166 : Nat → Nat → Int32 → Nat → Int32 → Nat → Int32 → Int32 → Int32 → Int32 → Nat → Nat → Lx → Option (Lx × Int32)) : Nat → Nat → Nat → Int32 → Nat → Int32 → Nat → Int32 → Int32 → Int32 → Int32 → Int32 → Int32 → Nat → Nat → Lx → Option (Lx × Int32)
  | 0, _, _, _, _, _, _, _, _, _, _, _, _, _, _, _ => none
  | n + 1, l0, l1, l2, l3, l4, l5, l6, l7, l8, l9, l10, l11, bc, bs, S =>
    gd (vi 1 (S.2 l4).length) <|
    if (xg (S.2 l4) 1) ≤ l11 then
      gd (tK S.1 l0 = 12) <|
      gd ((2 : Nat) ≤ bc ∧ 12 ≤ bs) <|
      bP (h_13021 l0 l7 l9 S.1) fun r10 =>
      if r10 = l10 then
        k166 l0 l1 l2 l3 l4 l5 l6 l7 l8 (l9 + 1) (bc - 2) (bs - 12) S
      else
        some (S, 0)
    else
      gd (vi l11 (S.2 l3).length) <|
      gd (¬ (8 : Int32) = 0) <|
      gd (¬ (4 : Int32) = 0) <|
      if (((xg (S.2 l3) l11) / 8) % 4) = l7 then
        l_13038_J211 k166 (l_13038_L183 k166 n) l0 l1 l2 l3 l4 l5 l6 l7 l8 l9 l10 l11 1 bc bs S
      else
        l_13038_J211 k166 (l_13038_L183 k166 n) l0 l1 l2 l3 l4 l5 l6 l7 l8 l9 l10 l11 0 bc bs S
def l_13038_L166 : Nat → Nat → Nat → Int32 → Nat → Int32 → Nat → Int32 → Int32 → Int32 → Int32 → Nat → Nat → Lx → Option (Lx × Int32)
  | 0, _, _, _, _, _, _, _, _, _, _, _, _, _ => none
  | n + 1, l0, l1, l2, l3, l4, l5, l6, l7, l8, l9, bc, bs, S =>
    gd (vi (4 + l7) (S.2 l2).length) <|
    if (xg (S.2 l2) (4 + l7)) ≤ l9 then
      gd (tK S.1 l0 = 12) <|
      gd ((2 : Nat) ≤ bc ∧ 12 ≤ bs) <|
      bP (h_13020 l0 l6 l7 S.1) fun r14 =>
      if r14 = l8 then
        gd (tK S.1 l0 = 12) <|
        bP (h_11021 l0 S.1) fun r16 =>
        gd (vi 1 (S.2 l4).length) <|
        if r16 = (xg (S.2 l4) 1) then
          gd (tK S.1 l0 = 12) <|
          bP (h_11019 l0 S.1) fun r18 =>
          gd (vi 2 (S.2 l4).length) <|
          if r18 = (xg (S.2 l4) 2) then
            gd (vi 1 (S.2 l4).length) <|
            gd (tK S.1 l0 = 12) <|
            gd ((1 : Nat) ≤ (bc - 2) ∧ 6 ≤ (bs - 12)) <|
            bP (h_13018 l0 (xg (S.2 l4) 1) S.1) fun r20 =>
            if r20 = (-1000001) then
              gd (vi (4 + l7) (S.2 l2).length) <|
              gd (tK S.1 l0 = 12) <|
              gd ((2 : Nat) ≤ ((bc - 2) - 1) ∧ 12 ≤ ((bs - 12) - 6)) <|
              bP (h_13021 l0 l7 (xg (S.2 l2) (4 + l7)) S.1) fun r22 =>
              if r22 = (-1000001) then
                gd (tK S.1 l0 = 12) <|
                gd ((2 : Nat) ≤ (((bc - 2) - 1) - 2) ∧ 12 ≤ (((bs - 12) - 6) - 12)) <|
                bP (h_13020 l0 6 0 S.1) fun r24 =>
                if r24 = (-1000001) then
                  some (S, 1)
                else
                  some (S, 0)
              else
                some (S, 0)
            else
              some (S, 0)
          else
            some (S, 0)
        else
          some (S, 0)
      else
        some (S, 0)
    else
      l_13038_L183 (l_13038_L166 n) 40 l0 l1 l2 l3 l4 l5 l6 l7 l8 l9 0 0 bc bs S
def l_13038_J115 (k28 : Nat → Nat → Int32 → Nat → Int32 → Nat → Int32 → Int32 → Int32 → Int32 → Nat → Nat → Lx → Option (Lx × Int32)) (l0 : Nat) (l1 : Nat) (l2 : Int32) (l3 : Nat) (l4 : Int32) (l5 : Nat) (l6 : Int32) (l7 : Int32) (l8 : Int32) (l9 : Int32) (l10 : Int32) (l11 : Int32) (bc bs : Nat) (S : Lx) : Option (Lx × Int32) :=
  gd (vi l9 (S.2 l3).length) <|
  gd (¬ (8 : Int32) = 0) <|
  if ((xg (S.2 l3) l9) % 8) = l6 then
    gd (vi l9 (S.2 l3).length) <|
    gd (¬ (8 : Int32) = 0) <|
    gd (¬ (4 : Int32) = 0) <|
    if (((xg (S.2 l3) l9) / 8) % 4) = l7 then
      if l10 ≤ l8 then
        k28 l0 l1 l2 l3 l4 l5 l6 l7 l8 (l9 + 1) bc bs S
      else
        k28 l0 l1 l2 l3 l4 l5 l6 l7 l10 (l9 + 1) bc bs S
    else
      k28 l0 l1 l2 l3 l4 l5 l6 l7 l8 (l9 + 1) bc bs S
  else
    k28 l0 l1 l2 l3 l4 l5 l6 l7 l8 (l9 + 1) bc bs S
def l_13038_J84 (k28 : Nat → Nat → Int32 → Nat → Int32 → Nat → Int32 → Int32 → Int32 → Int32 → Nat → Nat → Lx → Option (Lx × Int32)) (l0 : Nat) (l1 : Nat) (l2 : Int32) (l3 : Nat) (l4 : Int32) (l5 : Nat) (l6 : Int32) (l7 : Int32) (l8 : Int32) (l9 : Int32) (l10 : Int32) (k0 : Int32) (bc bs : Nat) (S : Lx) : Option (Lx × Int32) :=
  if k0 = 0 then
    some (S, 0)
  else
    gd (¬ (7 : Int32) = 0) <|
    if ((l9 + l5) % 7) = 0 then
      gd (tK S.1 l0 = 12) <|
      gd ((2 : Nat) ≤ bc ∧ 12 ≤ bs) <|
      bO (h_13019 l0 l9 S.1) fun T31 r31 => bS (lT S T31) fun S31 =>
      if r31 = l10 then
        l_13038_J115 k28 l0 l1 l2 l3 l4 l5 l6 l7 l8 l9 l10 k0 (bc - 2) (bs - 12) S31
      else
        some (S31, 0)
    else
      l_13038_J115 k28 l0 l1 l2 l3 l4 l5 l6 l7 l8 l9 l10 k0 bc bs S
def l_13038_J83 (k28 : Nat → Nat → Int32 → Nat → Int32 → Nat → Int32 → Int32 → Int32 → Int32 → Nat → Nat → Lx → Option (Lx × Int32)) (l0 : Nat) (l1 : Nat) (l2 : Int32) (l3 : Nat) (l4 : Int32) (l5 : Nat) (l6 : Int32) (l7 : Int32) (l8 : Int32) (l9 : Int32) (l10 : Int32) (bc bs : Nat) (S : Lx) : Option (Lx × Int32) :=
  l_13038_J84 k28 l0 l1 l2 l3 l4 l5 l6 l7 l8 l9 l10 0 bc bs S
def l_13038_L28 : Nat → Nat → Nat → Int32 → Nat → Int32 → Nat → Int32 → Int32 → Int32 → Int32 → Nat → Nat → Lx → Option (Lx × Int32)
  | 0, _, _, _, _, _, _, _, _, _, _, _, _, _ => none
  | n + 1, l0, l1, l2, l3, l4, l5, l6, l7, l8, l9, bc, bs, S =>
    gd (vi 1 (S.2 l4).length) <|
    if (xg (S.2 l4) 1) ≤ l9 then
      l_13038_L166 40 l0 l1 l2 l3 l4 l5 l6 l7 l8 0 bc bs S
    else
      gd ((18 : Nat) ≤ bc ∧ 108 ≤ bs) <|
      bP (l_13037 l0 l1 l2 l3 l9 0 S) fun r34 =>
      gd (tK S.1 l0 = 12) <|
      gd ((1 : Nat) ≤ (bc - 18) ∧ 6 ≤ (bs - 108)) <|
      bP (h_13018 l0 l9 S.1) fun r35 =>
      if r35 = r34 then
        gd (tK S.1 l0 = 12) <|
        gd ((1 : Nat) ≤ ((bc - 18) - 1) ∧ 6 ≤ ((bs - 108) - 6)) <|
        bP (h_13017 l0 l9 S.1) fun r37 =>
        gd ((18 : Nat) ≤ (((bc - 18) - 1) - 1) ∧ 108 ≤ (((bs - 108) - 6) - 6)) <|
        bP (l_13037 l0 l1 l2 l3 l9 1 S) fun r38 =>
        if r37 = r38 then
          l_13038_J84 (l_13038_L28 n) l0 l1 l2 l3 l4 l5 l6 l7 l8 l9 r34 1 ((((bc - 18) - 1) - 1) - 18) ((((bs - 108) - 6) - 6) - 108) S
        else
          l_13038_J83 (l_13038_L28 n) l0 l1 l2 l3 l4 l5 l6 l7 l8 l9 r34 ((((bc - 18) - 1) - 1) - 18) ((((bs - 108) - 6) - 6) - 108) S
      else
        l_13038_J83 (l_13038_L28 n) l0 l1 l2 l3 l4 l5 l6 l7 l8 l9 r34 ((bc - 18) - 1) ((bs - 108) - 6) S
def l_13038 (x0 : Nat) (x1 : Nat) (x2 : Int32) (x3 : Nat) (x4 : Int32) (x5 : Nat) (x6 : Int32) (x7 : Nat) (x8 : Int32) (x9 : Int32) (S : Lx) : Option (Lx × Int32) :=
  bP (h_13001 x5 6 S.1) fun r40 =>
  gd (vi 0 (S.2 x4).length) <|
  bP (h_13001 (x5 >>> (3 &&& 31)) (xg (S.2 x4) 0) S.1) fun r41 =>
  l_13038_L28 40 x0 x1 x2 x3 x4 x5 r40 r41 (-1) 0 3000 18000 S
set_option maxRecDepth 8000 in
theorem sl_13038 {d : Nat} {G : ab_G} {S : Lx} {P : ab_Pq} {X : ab_Xq} (h2 : LRep G S) {x0 : Nat} {x1 : Nat} {x2 : Int32} {x3 : Nat} {x4 : Int32} {x5 : Nat} {x6 : Int32} {x7 : Nat} {x8 : Int32} {x9 : Int32} {o : Lx × Int32} (ho : l_13038 x0 x1 x2 x3 x4 x5 x6 x7 x8 x9 S = some o) (h : ∀ G1, (o.2 = 0 ∨ o.2 = 1) → LRep G1 o.1 → P G1 (some (.int o.2))) : ab_Gam (d + 47) 13038 [.ref x0, .ref x1, .int x2, .ref x3, .int x4, .ref x5, .int x6, .ref x7, .int x8, .int x9] G P X := by
  unfold l_13038 at ho
  refine ab_enter (I := i13038) rfl (Nat.le_of_ble_eq_true rfl) (fun R hR => ?_)
  have h13038_L166 : ∀ (n : Nat) (l0 : Nat) (l1 : Nat) (l2 : Int32) (l3 : Nat) (l4 : Int32) (l5 : Nat) (l6 : Int32) (l7 : Int32) (l8 : Int32) (l9 : Int32) (w10 : Option Value) (w11 : Option Value) (w12 : Option Value) (S : Lx) (Ga : ab_G) (bc bs : Nat) (h2 : LRep Ga S) (ho : l_13038_L166 n l0 l1 l2 l3 l4 l5 l6 l7 l8 l9 bc bs S = some o), R 166 [some (.ref l0), some (.ref l1), some (.int l2), some (.ref l3), some (.int l4), some (.ref l5), some (.int l6), some (.int l7), some (.int l8), some (.int l9), w10, w11, w12] [] Ga bc bs := by
    intro n
    induction n with
    | zero => intro l0 l1 l2 l3 l4 l5 l6 l7 l8 l9 w10 w11 w12 S Ga bc bs h2 ho; exact absurd ho (by intro hc; cases hc)
    | succ n166 ih166 =>
      have h13038_L183 : ∀ (n : Nat) (l0 : Nat) (l1 : Nat) (l2 : Int32) (l3 : Nat) (l4 : Int32) (l5 : Nat) (l6 : Int32) (l7 : Int32) (l8 : Int32) (l9 : Int32) (l10 : Int32) (l11 : Int32) (w12 : Option Value) (S : Lx) (Ga : ab_G) (bc bs : Nat) (h2 : LRep Ga S) (ho : l_13038_L183 (l_13038_L166 n166) n l0 l1 l2 l3 l4 l5 l6 l7 l8 l9 l10 l11 bc bs S = some o), R 183 [some (.ref l0), some (.ref l1), some (.int l2), some (.ref l3), some (.int l4), some (.ref l5), some (.int l6), some (.int l7), some (.int l8), some (.int l9), some (.int l10), some (.int l11), w12] [] Ga bc bs := by
        intro n
        induction n with
        | zero => intro l0 l1 l2 l3 l4 l5 l6 l7 l8 l9 l10 l11 w12 S Ga bc bs h2 ho; exact absurd ho (by intro hc; cases hc)
        | succ n183 ih183 =>
          have h13038_J237 : ∀ (l0 : Nat) (l1 : Nat) (l2 : Int32) (l3 : Nat) (l4 : Int32) (l5 : Nat) (l6 : Int32) (l7 : Int32) (l8 : Int32) (l9 : Int32) (l10 : Int32) (l11 : Int32) (l12 : Int32) (k0 : Int32) (k1 : Int32)  (S : Lx) (Ga : ab_G) (bc bs : Nat) (h2 : LRep Ga S) (ho : l_13038_J237 (l_13038_L166 n166) (l_13038_L183 (l_13038_L166 n166) n183) l0 l1 l2 l3 l4 l5 l6 l7 l8 l9 l10 l11 l12 k0 k1 bc bs S = some o), R 237 [some (.ref l0), some (.ref l1), some (.int l2), some (.ref l3), some (.int l4), some (.ref l5), some (.int l6), some (.int l7), some (.int l8), some (.int l9), some (.int l10), some (.int l11), some (.int l12)] [.int k0, .int k1] Ga bc bs := by
            intro l0 l1 l2 l3 l4 l5 l6 l7 l8 l9 l10 l11 l12 k0 k1  S Ga bc bs h2 ho
            unfold l_13038_J237 at ho
            refine us_iadd hR dL_isMarked_237 ?_
            refine us_istore hR dL_isMarked_238 (Nat.le_of_ble_eq_true rfl) ?_
            refine us_iload hR dL_isMarked_240 rfl ?_
            refine us_if_eq hR dL_isMarked_242 270 (by decide) (fun c1 => ?_) (fun c1 => ?_)
            · rw [if_pos c1] at ho
              refine us_iincC hR dL_isMarked_270 rfl (Nat.le_of_ble_eq_true rfl) (c := 1) (by decide) ?_
              refine us_goto hR dL_isMarked_273 183 (by decide) ?_
              exact ih183 l0 l1 l2 l3 l4 l5 l6 l7 l8 l9 (k1 + k0) (l11 + 1) _ S Ga _ _ h2 ho
            · rw [if_neg c1] at ho
              refine us_aload_n hR dL_isMarked_245 rfl ?_
              refine us_iload hR dL_isMarked_246 rfl ?_
              refine us_iload hR dL_isMarked_248 rfl ?_
              have hg := gd_c ho
              rw [gd_e hg] at ho
              have hme := hg
              have hb := gd_c ho
              rw [gd_e hb] at ho
              refine us_callS hR dL_isMarked_250 (y := 13015) (by decide +kernel) (by decide) (J := i13015) rfl rfl rfl rfl (rest := _) (Nat.le_of_ble_eq_true rfl) hb.1 hb.2 ?_
              obtain ⟨r2, hr2⟩ := bP_ex ho
              replace ho := bP_go ho hr2
              refine sh_13015 h2.1 hme hr2 ?_
              refine us_iconstC hR dL_isMarked_253 (c := 1) (by decide) ?_
              refine us_icmp_ne hR dL_isMarked_254 270 (by decide) (fun c3 => ?_) (fun c3 => ?_)
              · rw [if_neg c3] at ho
                refine us_iincC hR dL_isMarked_270 rfl (Nat.le_of_ble_eq_true rfl) (c := 1) (by decide) ?_
                refine us_goto hR dL_isMarked_273 183 (by decide) ?_
                exact ih183 l0 l1 l2 l3 l4 l5 l6 l7 l8 l9 (k1 + k0) (l11 + 1) _ S Ga _ _ h2 ho
              · rw [if_pos c3] at ho
                refine us_aload_n hR dL_isMarked_257 rfl ?_
                refine us_iload hR dL_isMarked_258 rfl ?_
                refine us_iload hR dL_isMarked_260 rfl ?_
                have hg := gd_c ho
                rw [gd_e hg] at ho
                have hme := hg
                have hb := gd_c ho
                rw [gd_e hb] at ho
                refine us_callS hR dL_isMarked_262 (y := 13016) (by decide +kernel) (by decide) (J := i13016) rfl rfl rfl rfl (rest := _) (Nat.le_of_ble_eq_true rfl) hb.1 hb.2 ?_
                obtain ⟨r4, hr4⟩ := bP_ex ho
                replace ho := bP_go ho hr4
                refine sh_13016 h2.1 hme hr4 ?_
                refine us_if_eq hR dL_isMarked_265 270 (by decide) (fun c5 => ?_) (fun c5 => ?_)
                · rw [if_pos c5] at ho
                  refine us_iincC hR dL_isMarked_270 rfl (Nat.le_of_ble_eq_true rfl) (c := 1) (by decide) ?_
                  refine us_goto hR dL_isMarked_273 183 (by decide) ?_
                  exact ih183 l0 l1 l2 l3 l4 l5 l6 l7 l8 l9 (k1 + k0) (l11 + 1) _ S Ga _ _ h2 ho
                · rw [if_neg c5] at ho
                  refine us_iconstC hR dL_isMarked_268 (c := 0) (by decide) ?_
                  refine us_iret hR dL_isMarked_269 rfl (nar01 (Or.inl rfl)) ?_
                  cases ho
                  exact h _ (Or.inl rfl) h2
          have h13038_J236 : ∀ (l0 : Nat) (l1 : Nat) (l2 : Int32) (l3 : Nat) (l4 : Int32) (l5 : Nat) (l6 : Int32) (l7 : Int32) (l8 : Int32) (l9 : Int32) (l10 : Int32) (l11 : Int32) (l12 : Int32) (k0 : Int32)  (S : Lx) (Ga : ab_G) (bc bs : Nat) (h2 : LRep Ga S) (ho : l_13038_J236 (l_13038_L166 n166) (l_13038_L183 (l_13038_L166 n166) n183) l0 l1 l2 l3 l4 l5 l6 l7 l8 l9 l10 l11 l12 k0 bc bs S = some o), R 236 [some (.ref l0), some (.ref l1), some (.int l2), some (.ref l3), some (.int l4), some (.ref l5), some (.int l6), some (.int l7), some (.int l8), some (.int l9), some (.int l10), some (.int l11), some (.int l12)] [.int k0] Ga bc bs := by
            intro l0 l1 l2 l3 l4 l5 l6 l7 l8 l9 l10 l11 l12 k0  S Ga bc bs h2 ho
            unfold l_13038_J236 at ho
            refine us_iconstC hR dL_isMarked_236 (c := 0) (by decide) ?_
            exact h13038_J237 l0 l1 l2 l3 l4 l5 l6 l7 l8 l9 l10 l11 l12 0 k0  S Ga _ _ h2 ho
          have h13038_J211 : ∀ (l0 : Nat) (l1 : Nat) (l2 : Int32) (l3 : Nat) (l4 : Int32) (l5 : Nat) (l6 : Int32) (l7 : Int32) (l8 : Int32) (l9 : Int32) (l10 : Int32) (l11 : Int32) (k0 : Int32) (w12 : Option Value) (S : Lx) (Ga : ab_G) (bc bs : Nat) (h2 : LRep Ga S) (ho : l_13038_J211 (l_13038_L166 n166) (l_13038_L183 (l_13038_L166 n166) n183) l0 l1 l2 l3 l4 l5 l6 l7 l8 l9 l10 l11 k0 bc bs S = some o), R 211 [some (.ref l0), some (.ref l1), some (.int l2), some (.ref l3), some (.int l4), some (.ref l5), some (.int l6), some (.int l7), some (.int l8), some (.int l9), some (.int l10), some (.int l11), w12] [.int k0] Ga bc bs := by
            intro l0 l1 l2 l3 l4 l5 l6 l7 l8 l9 l10 l11 k0 w12 S Ga bc bs h2 ho
            unfold l_13038_J211 at ho
            refine us_istore hR dL_isMarked_211 (Nat.le_of_ble_eq_true rfl) ?_
            refine us_iload hR dL_isMarked_213 rfl ?_
            refine us_iload hR dL_isMarked_215 rfl ?_
            refine us_if_eq hR dL_isMarked_217 236 (by decide) (fun c6 => ?_) (fun c6 => ?_)
            · rw [if_pos c6] at ho
              exact h13038_J236 l0 l1 l2 l3 l4 l5 l6 l7 l8 l9 l10 l11 k0 l10  S Ga _ _ h2 ho
            · rw [if_neg c6] at ho
              refine us_aload_n hR dL_isMarked_220 rfl ?_
              refine us_iload hR dL_isMarked_221 rfl ?_
              refine us_iload hR dL_isMarked_223 rfl ?_
              have hg := gd_c ho
              rw [gd_e hg] at ho
              have hme := hg
              have hb := gd_c ho
              rw [gd_e hb] at ho
              refine us_callS hR dL_isMarked_225 (y := 13015) (by decide +kernel) (by decide) (J := i13015) rfl rfl rfl rfl (rest := _) (Nat.le_of_ble_eq_true rfl) hb.1 hb.2 ?_
              obtain ⟨r7, hr7⟩ := bP_ex ho
              replace ho := bP_go ho hr7
              refine sh_13015 h2.1 hme hr7 ?_
              refine us_iconstC hR dL_isMarked_228 (c := 1) (by decide) ?_
              refine us_icmp_ne hR dL_isMarked_229 236 (by decide) (fun c8 => ?_) (fun c8 => ?_)
              · rw [if_neg c8] at ho
                exact h13038_J236 l0 l1 l2 l3 l4 l5 l6 l7 l8 l9 l10 l11 k0 l10  S Ga _ _ h2 ho
              · rw [if_pos c8] at ho
                refine us_iconstC hR dL_isMarked_232 (c := 1) (by decide) ?_
                refine us_goto hR dL_isMarked_233 237 (by decide) ?_
                exact h13038_J237 l0 l1 l2 l3 l4 l5 l6 l7 l8 l9 l10 l11 k0 1 l10  S Ga _ _ h2 ho
          intro l0 l1 l2 l3 l4 l5 l6 l7 l8 l9 l10 l11 w12 S Ga bc bs h2 ho
          rw [l_13038_L183] at ho
          refine us_iload hR dL_isMarked_183 rfl ?_
          refine us_aload hR dL_isMarked_185 rfl ?_
          refine us_iconstC hR dL_isMarked_187 (c := 1) (by decide) ?_
          have hg := gd_c ho
          rw [gd_e hg] at ho
          refine ul_iaload h2 hg hR dL_isMarked_188 ?_
          refine us_icmp_ge hR dL_isMarked_189 276 (by decide) (fun c9 => ?_) (fun c9 => ?_)
          · rw [if_pos c9] at ho
            refine us_aload_n hR dL_isMarked_276 rfl ?_
            refine us_iload hR dL_isMarked_277 rfl ?_
            refine us_iload hR dL_isMarked_279 rfl ?_
            have hg := gd_c ho
            rw [gd_e hg] at ho
            have hme := hg
            have hb := gd_c ho
            rw [gd_e hb] at ho
            refine us_callS hR dL_isMarked_281 (y := 13021) (by decide +kernel) (by decide) (J := i13021) rfl rfl rfl rfl (rest := _) (Nat.le_of_ble_eq_true rfl) hb.1 hb.2 ?_
            obtain ⟨r10, hr10⟩ := bP_ex ho
            replace ho := bP_go ho hr10
            refine sh_13021 h2.1 hme hr10 ?_
            refine us_iload hR dL_isMarked_284 rfl ?_
            refine us_icmp_eq hR dL_isMarked_286 291 (by decide) (fun c11 => ?_) (fun c11 => ?_)
            · rw [if_pos c11] at ho
              refine us_iincC hR dL_isMarked_291 rfl (Nat.le_of_ble_eq_true rfl) (c := 1) (by decide) ?_
              refine us_goto hR dL_isMarked_294 166 (by decide) ?_
              exact ih166 l0 l1 l2 l3 l4 l5 l6 l7 l8 (l9 + 1) _ _ _ S Ga _ _ h2 ho
            · rw [if_neg c11] at ho
              refine us_iconstC hR dL_isMarked_289 (c := 0) (by decide) ?_
              refine us_iret hR dL_isMarked_290 rfl (nar01 (Or.inl rfl)) ?_
              cases ho
              exact h _ (Or.inl rfl) h2
          · rw [if_neg c9] at ho
            refine us_aload_n hR dL_isMarked_192 rfl ?_
            refine us_iload hR dL_isMarked_193 rfl ?_
            have hg := gd_c ho
            rw [gd_e hg] at ho
            refine ul_iaload h2 hg hR dL_isMarked_195 ?_
            refine us_bipushC hR dL_isMarked_196 (c := 8) (by decide) ?_
            have hg := gd_c ho
            rw [gd_e hg] at ho
            refine us_idiv hR dL_isMarked_198 hg ?_
            refine us_iconstC hR dL_isMarked_199 (c := 4) (by decide) ?_
            have hg := gd_c ho
            rw [gd_e hg] at ho
            refine us_irem hR dL_isMarked_200 hg ?_
            refine us_iload hR dL_isMarked_201 rfl ?_
            refine us_icmp_ne hR dL_isMarked_203 210 (by decide) (fun c12 => ?_) (fun c12 => ?_)
            · rw [if_neg c12] at ho
              refine us_iconstC hR dL_isMarked_210 (c := 0) (by decide) ?_
              exact h13038_J211 l0 l1 l2 l3 l4 l5 l6 l7 l8 l9 l10 l11 0 _ S Ga _ _ h2 ho
            · rw [if_pos c12] at ho
              refine us_iconstC hR dL_isMarked_206 (c := 1) (by decide) ?_
              refine us_goto hR dL_isMarked_207 211 (by decide) ?_
              exact h13038_J211 l0 l1 l2 l3 l4 l5 l6 l7 l8 l9 l10 l11 1 _ S Ga _ _ h2 ho
      intro l0 l1 l2 l3 l4 l5 l6 l7 l8 l9 w10 w11 w12 S Ga bc bs h2 ho
      rw [l_13038_L166] at ho
      refine us_iload hR dL_isMarked_166 rfl ?_
      refine us_aload_n hR dL_isMarked_168 rfl ?_
      refine us_iconstC hR dL_isMarked_169 (c := 4) (by decide) ?_
      refine us_iload hR dL_isMarked_170 rfl ?_
      refine us_iadd hR dL_isMarked_172 ?_
      have hg := gd_c ho
      rw [gd_e hg] at ho
      refine ul_iaload h2 hg hR dL_isMarked_173 ?_
      refine us_icmp_ge hR dL_isMarked_174 297 (by decide) (fun c13 => ?_) (fun c13 => ?_)
      · rw [if_pos c13] at ho
        refine us_aload_n hR dL_isMarked_297 rfl ?_
        refine us_iload hR dL_isMarked_298 rfl ?_
        refine us_iload hR dL_isMarked_300 rfl ?_
        have hg := gd_c ho
        rw [gd_e hg] at ho
        have hme := hg
        have hb := gd_c ho
        rw [gd_e hb] at ho
        refine us_callS hR dL_isMarked_302 (y := 13020) (by decide +kernel) (by decide) (J := i13020) rfl rfl rfl rfl (rest := _) (Nat.le_of_ble_eq_true rfl) hb.1 hb.2 ?_
        obtain ⟨r14, hr14⟩ := bP_ex ho
        replace ho := bP_go ho hr14
        refine sh_13020 h2.1 hme hr14 ?_
        refine us_iload hR dL_isMarked_305 rfl ?_
        refine us_icmp_ne hR dL_isMarked_307 378 (by decide) (fun c15 => ?_) (fun c15 => ?_)
        · rw [if_neg c15] at ho
          refine us_iconstC hR dL_isMarked_378 (c := 0) (by decide) ?_
          refine us_iret hR dL_isMarked_379 rfl (nar01 (Or.inl rfl)) ?_
          cases ho
          exact h _ (Or.inl rfl) h2
        · rw [if_pos c15] at ho
          refine us_aload_n hR dL_isMarked_310 rfl ?_
          have hg := gd_c ho
          rw [gd_e hg] at ho
          refine us_callV hR dL_isMarked_311 (y := 11021) (by decide +kernel) (by decide) (J := i11021) rfl rfl rfl rfl (H_kind1 h2.1 hg (by decide)) rfl (Nat.le_of_ble_eq_true rfl) (Nat.zero_le _) (Nat.zero_le _) ?_
          obtain ⟨r16, hr16⟩ := bP_ex ho
          replace ho := bP_go ho hr16
          refine sh_11021 h2.1 hr16 ?_
          refine us_aload hR dL_isMarked_314 rfl ?_
          refine us_iconstC hR dL_isMarked_316 (c := 1) (by decide) ?_
          have hg := gd_c ho
          rw [gd_e hg] at ho
          refine ul_iaload h2 hg hR dL_isMarked_317 ?_
          refine us_icmp_ne hR dL_isMarked_318 378 (by decide) (fun c17 => ?_) (fun c17 => ?_)
          · rw [if_neg c17] at ho
            refine us_iconstC hR dL_isMarked_378 (c := 0) (by decide) ?_
            refine us_iret hR dL_isMarked_379 rfl (nar01 (Or.inl rfl)) ?_
            cases ho
            exact h _ (Or.inl rfl) h2
          · rw [if_pos c17] at ho
            refine us_aload_n hR dL_isMarked_321 rfl ?_
            have hg := gd_c ho
            rw [gd_e hg] at ho
            refine us_callV hR dL_isMarked_322 (y := 11019) (by decide +kernel) (by decide) (J := i11019) rfl rfl rfl rfl (H_kind1 h2.1 hg (by decide)) rfl (Nat.le_of_ble_eq_true rfl) (Nat.zero_le _) (Nat.zero_le _) ?_
            obtain ⟨r18, hr18⟩ := bP_ex ho
            replace ho := bP_go ho hr18
            refine sh_11019 h2.1 hr18 ?_
            refine us_aload hR dL_isMarked_325 rfl ?_
            refine us_iconstC hR dL_isMarked_327 (c := 2) (by decide) ?_
            have hg := gd_c ho
            rw [gd_e hg] at ho
            refine ul_iaload h2 hg hR dL_isMarked_328 ?_
            refine us_icmp_ne hR dL_isMarked_329 378 (by decide) (fun c19 => ?_) (fun c19 => ?_)
            · rw [if_neg c19] at ho
              refine us_iconstC hR dL_isMarked_378 (c := 0) (by decide) ?_
              refine us_iret hR dL_isMarked_379 rfl (nar01 (Or.inl rfl)) ?_
              cases ho
              exact h _ (Or.inl rfl) h2
            · rw [if_pos c19] at ho
              refine us_aload_n hR dL_isMarked_332 rfl ?_
              refine us_aload hR dL_isMarked_333 rfl ?_
              refine us_iconstC hR dL_isMarked_335 (c := 1) (by decide) ?_
              have hg := gd_c ho
              rw [gd_e hg] at ho
              refine ul_iaload h2 hg hR dL_isMarked_336 ?_
              have hg := gd_c ho
              rw [gd_e hg] at ho
              have hme := hg
              have hb := gd_c ho
              rw [gd_e hb] at ho
              refine us_callS hR dL_isMarked_337 (y := 13018) (by decide +kernel) (by decide) (J := i13018) rfl rfl rfl rfl (rest := _) (Nat.le_of_ble_eq_true rfl) hb.1 hb.2 ?_
              obtain ⟨r20, hr20⟩ := bP_ex ho
              replace ho := bP_go ho hr20
              refine sh_13018 h2.1 hme hr20 ?_
              refine us_ldc hR dL_isMarked_340 (v := (-1000001)) (by decide +kernel) ?_
              refine us_icmp_ne hR dL_isMarked_342 378 (by decide) (fun c21 => ?_) (fun c21 => ?_)
              · rw [if_neg c21] at ho
                refine us_iconstC hR dL_isMarked_378 (c := 0) (by decide) ?_
                refine us_iret hR dL_isMarked_379 rfl (nar01 (Or.inl rfl)) ?_
                cases ho
                exact h _ (Or.inl rfl) h2
              · rw [if_pos c21] at ho
                refine us_aload_n hR dL_isMarked_345 rfl ?_
                refine us_iload hR dL_isMarked_346 rfl ?_
                refine us_aload_n hR dL_isMarked_348 rfl ?_
                refine us_iconstC hR dL_isMarked_349 (c := 4) (by decide) ?_
                refine us_iload hR dL_isMarked_350 rfl ?_
                refine us_iadd hR dL_isMarked_352 ?_
                have hg := gd_c ho
                rw [gd_e hg] at ho
                refine ul_iaload h2 hg hR dL_isMarked_353 ?_
                have hg := gd_c ho
                rw [gd_e hg] at ho
                have hme := hg
                have hb := gd_c ho
                rw [gd_e hb] at ho
                refine us_callS hR dL_isMarked_354 (y := 13021) (by decide +kernel) (by decide) (J := i13021) rfl rfl rfl rfl (rest := _) (Nat.le_of_ble_eq_true rfl) hb.1 hb.2 ?_
                obtain ⟨r22, hr22⟩ := bP_ex ho
                replace ho := bP_go ho hr22
                refine sh_13021 h2.1 hme hr22 ?_
                refine us_ldc hR dL_isMarked_357 (v := (-1000001)) (by decide +kernel) ?_
                refine us_icmp_ne hR dL_isMarked_359 378 (by decide) (fun c23 => ?_) (fun c23 => ?_)
                · rw [if_neg c23] at ho
                  refine us_iconstC hR dL_isMarked_378 (c := 0) (by decide) ?_
                  refine us_iret hR dL_isMarked_379 rfl (nar01 (Or.inl rfl)) ?_
                  cases ho
                  exact h _ (Or.inl rfl) h2
                · rw [if_pos c23] at ho
                  refine us_aload_n hR dL_isMarked_362 rfl ?_
                  refine us_bipushC hR dL_isMarked_363 (c := 6) (by decide) ?_
                  refine us_iconstC hR dL_isMarked_365 (c := 0) (by decide) ?_
                  have hg := gd_c ho
                  rw [gd_e hg] at ho
                  have hme := hg
                  have hb := gd_c ho
                  rw [gd_e hb] at ho
                  refine us_callS hR dL_isMarked_366 (y := 13020) (by decide +kernel) (by decide) (J := i13020) rfl rfl rfl rfl (rest := _) (Nat.le_of_ble_eq_true rfl) hb.1 hb.2 ?_
                  obtain ⟨r24, hr24⟩ := bP_ex ho
                  replace ho := bP_go ho hr24
                  refine sh_13020 h2.1 hme hr24 ?_
                  refine us_ldc hR dL_isMarked_369 (v := (-1000001)) (by decide +kernel) ?_
                  refine us_icmp_ne hR dL_isMarked_371 378 (by decide) (fun c25 => ?_) (fun c25 => ?_)
                  · rw [if_neg c25] at ho
                    refine us_iconstC hR dL_isMarked_378 (c := 0) (by decide) ?_
                    refine us_iret hR dL_isMarked_379 rfl (nar01 (Or.inl rfl)) ?_
                    cases ho
                    exact h _ (Or.inl rfl) h2
                  · rw [if_pos c25] at ho
                    refine us_iconstC hR dL_isMarked_374 (c := 1) (by decide) ?_
                    refine us_goto hR dL_isMarked_375 379 (by decide) ?_
                    refine us_iret hR dL_isMarked_379 rfl (nar01 (Or.inr rfl)) ?_
                    cases ho
                    exact h _ (Or.inr rfl) h2
      · rw [if_neg c13] at ho
        refine us_iconstC hR dL_isMarked_177 (c := 0) (by decide) ?_
        refine us_istore hR dL_isMarked_178 (Nat.le_of_ble_eq_true rfl) ?_
        refine us_iconstC hR dL_isMarked_180 (c := 0) (by decide) ?_
        refine us_istore hR dL_isMarked_181 (Nat.le_of_ble_eq_true rfl) ?_
        exact h13038_L183 _ l0 l1 l2 l3 l4 l5 l6 l7 l8 l9 0 0 _ S Ga _ _ h2 ho
  have h13038_L28 : ∀ (n : Nat) (l0 : Nat) (l1 : Nat) (l2 : Int32) (l3 : Nat) (l4 : Int32) (l5 : Nat) (l6 : Int32) (l7 : Int32) (l8 : Int32) (l9 : Int32) (w10 : Option Value) (w11 : Option Value) (S : Lx) (Ga : ab_G) (bc bs : Nat) (h2 : LRep Ga S) (ho : l_13038_L28 n l0 l1 l2 l3 l4 l5 l6 l7 l8 l9 bc bs S = some o), R 28 [some (.ref l0), some (.ref l1), some (.int l2), some (.ref l3), some (.int l4), some (.ref l5), some (.int l6), some (.int l7), some (.int l8), some (.int l9), w10, w11, none] [] Ga bc bs := by
    intro n
    induction n with
    | zero => intro l0 l1 l2 l3 l4 l5 l6 l7 l8 l9 w10 w11 S Ga bc bs h2 ho; exact absurd ho (by intro hc; cases hc)
    | succ n28 ih28 =>
      have h13038_J115 : ∀ (l0 : Nat) (l1 : Nat) (l2 : Int32) (l3 : Nat) (l4 : Int32) (l5 : Nat) (l6 : Int32) (l7 : Int32) (l8 : Int32) (l9 : Int32) (l10 : Int32) (l11 : Int32)  (S : Lx) (Ga : ab_G) (bc bs : Nat) (h2 : LRep Ga S) (ho : l_13038_J115 (l_13038_L28 n28) l0 l1 l2 l3 l4 l5 l6 l7 l8 l9 l10 l11 bc bs S = some o), R 115 [some (.ref l0), some (.ref l1), some (.int l2), some (.ref l3), some (.int l4), some (.ref l5), some (.int l6), some (.int l7), some (.int l8), some (.int l9), some (.int l10), some (.int l11), none] [] Ga bc bs := by
        intro l0 l1 l2 l3 l4 l5 l6 l7 l8 l9 l10 l11  S Ga bc bs h2 ho
        unfold l_13038_J115 at ho
        refine us_aload_n hR dL_isMarked_115 rfl ?_
        refine us_iload hR dL_isMarked_116 rfl ?_
        have hg := gd_c ho
        rw [gd_e hg] at ho
        refine ul_iaload h2 hg hR dL_isMarked_118 ?_
        refine us_bipushC hR dL_isMarked_119 (c := 8) (by decide) ?_
        have hg := gd_c ho
        rw [gd_e hg] at ho
        refine us_irem hR dL_isMarked_121 hg ?_
        refine us_iload hR dL_isMarked_122 rfl ?_
        refine us_icmp_ne hR dL_isMarked_124 153 (by decide) (fun c26 => ?_) (fun c26 => ?_)
        · rw [if_neg c26] at ho
          refine us_iload hR dL_isMarked_153 rfl ?_
          refine us_istore hR dL_isMarked_155 (Nat.le_of_ble_eq_true rfl) ?_
          refine us_iincC hR dL_isMarked_157 rfl (Nat.le_of_ble_eq_true rfl) (c := 1) (by decide) ?_
          refine us_goto hR dL_isMarked_160 28 (by decide) ?_
          exact ih28 l0 l1 l2 l3 l4 l5 l6 l7 l8 (l9 + 1) _ _ S Ga _ _ h2 ho
        · rw [if_pos c26] at ho
          refine us_aload_n hR dL_isMarked_127 rfl ?_
          refine us_iload hR dL_isMarked_128 rfl ?_
          have hg := gd_c ho
          rw [gd_e hg] at ho
          refine ul_iaload h2 hg hR dL_isMarked_130 ?_
          refine us_bipushC hR dL_isMarked_131 (c := 8) (by decide) ?_
          have hg := gd_c ho
          rw [gd_e hg] at ho
          refine us_idiv hR dL_isMarked_133 hg ?_
          refine us_iconstC hR dL_isMarked_134 (c := 4) (by decide) ?_
          have hg := gd_c ho
          rw [gd_e hg] at ho
          refine us_irem hR dL_isMarked_135 hg ?_
          refine us_iload hR dL_isMarked_136 rfl ?_
          refine us_icmp_ne hR dL_isMarked_138 153 (by decide) (fun c27 => ?_) (fun c27 => ?_)
          · rw [if_neg c27] at ho
            refine us_iload hR dL_isMarked_153 rfl ?_
            refine us_istore hR dL_isMarked_155 (Nat.le_of_ble_eq_true rfl) ?_
            refine us_iincC hR dL_isMarked_157 rfl (Nat.le_of_ble_eq_true rfl) (c := 1) (by decide) ?_
            refine us_goto hR dL_isMarked_160 28 (by decide) ?_
            exact ih28 l0 l1 l2 l3 l4 l5 l6 l7 l8 (l9 + 1) _ _ S Ga _ _ h2 ho
          · rw [if_pos c27] at ho
            refine us_iload hR dL_isMarked_141 rfl ?_
            refine us_iload hR dL_isMarked_143 rfl ?_
            refine us_icmp_le hR dL_isMarked_145 153 (by decide) (fun c28 => ?_) (fun c28 => ?_)
            · rw [if_pos c28] at ho
              refine us_iload hR dL_isMarked_153 rfl ?_
              refine us_istore hR dL_isMarked_155 (Nat.le_of_ble_eq_true rfl) ?_
              refine us_iincC hR dL_isMarked_157 rfl (Nat.le_of_ble_eq_true rfl) (c := 1) (by decide) ?_
              refine us_goto hR dL_isMarked_160 28 (by decide) ?_
              exact ih28 l0 l1 l2 l3 l4 l5 l6 l7 l8 (l9 + 1) _ _ S Ga _ _ h2 ho
            · rw [if_neg c28] at ho
              refine us_iload hR dL_isMarked_148 rfl ?_
              refine us_goto hR dL_isMarked_150 155 (by decide) ?_
              refine us_istore hR dL_isMarked_155 (Nat.le_of_ble_eq_true rfl) ?_
              refine us_iincC hR dL_isMarked_157 rfl (Nat.le_of_ble_eq_true rfl) (c := 1) (by decide) ?_
              refine us_goto hR dL_isMarked_160 28 (by decide) ?_
              exact ih28 l0 l1 l2 l3 l4 l5 l6 l7 l10 (l9 + 1) _ _ S Ga _ _ h2 ho
      have h13038_J84 : ∀ (l0 : Nat) (l1 : Nat) (l2 : Int32) (l3 : Nat) (l4 : Int32) (l5 : Nat) (l6 : Int32) (l7 : Int32) (l8 : Int32) (l9 : Int32) (l10 : Int32) (k0 : Int32) (w11 : Option Value) (S : Lx) (Ga : ab_G) (bc bs : Nat) (h2 : LRep Ga S) (ho : l_13038_J84 (l_13038_L28 n28) l0 l1 l2 l3 l4 l5 l6 l7 l8 l9 l10 k0 bc bs S = some o), R 84 [some (.ref l0), some (.ref l1), some (.int l2), some (.ref l3), some (.int l4), some (.ref l5), some (.int l6), some (.int l7), some (.int l8), some (.int l9), some (.int l10), w11, none] [.int k0] Ga bc bs := by
        intro l0 l1 l2 l3 l4 l5 l6 l7 l8 l9 l10 k0 w11 S Ga bc bs h2 ho
        unfold l_13038_J84 at ho
        refine us_istore hR dL_isMarked_84 (Nat.le_of_ble_eq_true rfl) ?_
        refine us_iload hR dL_isMarked_86 rfl ?_
        refine us_if_eq hR dL_isMarked_88 113 (by decide) (fun c29 => ?_) (fun c29 => ?_)
        · rw [if_pos c29] at ho
          refine us_iconstC hR dL_isMarked_113 (c := 0) (by decide) ?_
          refine us_iret hR dL_isMarked_114 rfl (nar01 (Or.inl rfl)) ?_
          cases ho
          exact h _ (Or.inl rfl) h2
        · rw [if_neg c29] at ho
          refine us_iload hR dL_isMarked_91 rfl ?_
          refine us_iload hR dL_isMarked_93 rfl ?_
          refine us_iadd hR dL_isMarked_95 ?_
          refine us_bipushC hR dL_isMarked_96 (c := 7) (by decide) ?_
          have hg := gd_c ho
          rw [gd_e hg] at ho
          refine us_irem hR dL_isMarked_98 hg ?_
          refine us_if_ne hR dL_isMarked_99 115 (by decide) (fun c30 => ?_) (fun c30 => ?_)
          · rw [if_neg c30] at ho
            exact h13038_J115 l0 l1 l2 l3 l4 l5 l6 l7 l8 l9 l10 k0  S Ga _ _ h2 ho
          · rw [if_pos c30] at ho
            refine us_aload_n hR dL_isMarked_102 rfl ?_
            refine us_iload hR dL_isMarked_103 rfl ?_
            have hg := gd_c ho
            rw [gd_e hg] at ho
            have hme := hg
            have hb := gd_c ho
            rw [gd_e hb] at ho
            refine us_callS hR dL_isMarked_105 (y := 13019) (by decide +kernel) (by decide) (J := i13019) rfl rfl rfl rfl (rest := _) (Nat.le_of_ble_eq_true rfl) hb.1 hb.2 ?_
            obtain ⟨q31, hs31⟩ := bO_ex ho
            obtain ⟨T31, r31⟩ := q31
            replace ho := bO_go ho hs31
            refine sh_13019 h2.1 hme hs31 (fun G31 h331 hF31 => ?_)
            have h231 := h2.cls h331 hF31
            obtain ⟨S31, hS31⟩ : ∃ Sz, Sz = lT S T31 := ⟨_, rfl⟩
            rw [bS_eq, ← hS31] at ho
            rw [← hS31] at h231
            refine us_iload hR dL_isMarked_108 rfl ?_
            refine us_icmp_eq hR dL_isMarked_110 115 (by decide) (fun c32 => ?_) (fun c32 => ?_)
            · rw [if_pos c32] at ho
              exact h13038_J115 l0 l1 l2 l3 l4 l5 l6 l7 l8 l9 l10 k0  S31 G31 _ _ h231 ho
            · rw [if_neg c32] at ho
              refine us_iconstC hR dL_isMarked_113 (c := 0) (by decide) ?_
              refine us_iret hR dL_isMarked_114 rfl (nar01 (Or.inl rfl)) ?_
              cases ho
              exact h _ (Or.inl rfl) h231
      have h13038_J83 : ∀ (l0 : Nat) (l1 : Nat) (l2 : Int32) (l3 : Nat) (l4 : Int32) (l5 : Nat) (l6 : Int32) (l7 : Int32) (l8 : Int32) (l9 : Int32) (l10 : Int32) (w11 : Option Value) (S : Lx) (Ga : ab_G) (bc bs : Nat) (h2 : LRep Ga S) (ho : l_13038_J83 (l_13038_L28 n28) l0 l1 l2 l3 l4 l5 l6 l7 l8 l9 l10 bc bs S = some o), R 83 [some (.ref l0), some (.ref l1), some (.int l2), some (.ref l3), some (.int l4), some (.ref l5), some (.int l6), some (.int l7), some (.int l8), some (.int l9), some (.int l10), w11, none] [] Ga bc bs := by
        intro l0 l1 l2 l3 l4 l5 l6 l7 l8 l9 l10 w11 S Ga bc bs h2 ho
        unfold l_13038_J83 at ho
        refine us_iconstC hR dL_isMarked_83 (c := 0) (by decide) ?_
        exact h13038_J84 l0 l1 l2 l3 l4 l5 l6 l7 l8 l9 l10 0 _ S Ga _ _ h2 ho
      intro l0 l1 l2 l3 l4 l5 l6 l7 l8 l9 w10 w11 S Ga bc bs h2 ho
      rw [l_13038_L28] at ho
      refine us_iload hR dL_isMarked_28 rfl ?_
      refine us_aload hR dL_isMarked_30 rfl ?_
      refine us_iconstC hR dL_isMarked_32 (c := 1) (by decide) ?_
      have hg := gd_c ho
      rw [gd_e hg] at ho
      refine ul_iaload h2 hg hR dL_isMarked_33 ?_
      refine us_icmp_ge hR dL_isMarked_34 163 (by decide) (fun c33 => ?_) (fun c33 => ?_)
      · rw [if_pos c33] at ho
        refine us_iconstC hR dL_isMarked_163 (c := 0) (by decide) ?_
        refine us_istore hR dL_isMarked_164 (Nat.le_of_ble_eq_true rfl) ?_
        exact h13038_L166 _ l0 l1 l2 l3 l4 l5 l6 l7 l8 0 _ _ _ S Ga _ _ h2 ho
      · rw [if_neg c33] at ho
        refine us_aload_n hR dL_isMarked_37 rfl ?_
        refine us_aload_n hR dL_isMarked_38 rfl ?_
        refine us_aload_n hR dL_isMarked_39 rfl ?_
        refine us_aload_n hR dL_isMarked_40 rfl ?_
        refine us_iload hR dL_isMarked_41 rfl ?_
        refine us_iconstC hR dL_isMarked_43 (c := 0) (by decide) ?_
        have hb := gd_c ho
        rw [gd_e hb] at ho
        refine us_callS hR dL_isMarked_44 (y := 13037) (by decide +kernel) (by decide) (J := i13037) rfl rfl rfl rfl (rest := _) (Nat.le_of_ble_eq_true rfl) hb.1 hb.2 ?_
        obtain ⟨r34, hr34⟩ := bP_ex ho
        replace ho := bP_go ho hr34
        refine sl_13037 h2 hr34 ?_
        refine us_istore hR dL_isMarked_47 (Nat.le_of_ble_eq_true rfl) ?_
        refine us_aload_n hR dL_isMarked_49 rfl ?_
        refine us_iload hR dL_isMarked_50 rfl ?_
        have hg := gd_c ho
        rw [gd_e hg] at ho
        have hme := hg
        have hb := gd_c ho
        rw [gd_e hb] at ho
        refine us_callS hR dL_isMarked_52 (y := 13018) (by decide +kernel) (by decide) (J := i13018) rfl rfl rfl rfl (rest := _) (Nat.le_of_ble_eq_true rfl) hb.1 hb.2 ?_
        obtain ⟨r35, hr35⟩ := bP_ex ho
        replace ho := bP_go ho hr35
        refine sh_13018 h2.1 hme hr35 ?_
        refine us_iload hR dL_isMarked_55 rfl ?_
        refine us_icmp_ne hR dL_isMarked_57 83 (by decide) (fun c36 => ?_) (fun c36 => ?_)
        · rw [if_neg c36] at ho
          exact h13038_J83 l0 l1 l2 l3 l4 l5 l6 l7 l8 l9 r34 _ S Ga _ _ h2 ho
        · rw [if_pos c36] at ho
          refine us_aload_n hR dL_isMarked_60 rfl ?_
          refine us_iload hR dL_isMarked_61 rfl ?_
          have hg := gd_c ho
          rw [gd_e hg] at ho
          have hme := hg
          have hb := gd_c ho
          rw [gd_e hb] at ho
          refine us_callS hR dL_isMarked_63 (y := 13017) (by decide +kernel) (by decide) (J := i13017) rfl rfl rfl rfl (rest := _) (Nat.le_of_ble_eq_true rfl) hb.1 hb.2 ?_
          obtain ⟨r37, hr37⟩ := bP_ex ho
          replace ho := bP_go ho hr37
          refine sh_13017 h2.1 hme hr37 ?_
          refine us_aload_n hR dL_isMarked_66 rfl ?_
          refine us_aload_n hR dL_isMarked_67 rfl ?_
          refine us_aload_n hR dL_isMarked_68 rfl ?_
          refine us_aload_n hR dL_isMarked_69 rfl ?_
          refine us_iload hR dL_isMarked_70 rfl ?_
          refine us_iconstC hR dL_isMarked_72 (c := 1) (by decide) ?_
          have hb := gd_c ho
          rw [gd_e hb] at ho
          refine us_callS hR dL_isMarked_73 (y := 13037) (by decide +kernel) (by decide) (J := i13037) rfl rfl rfl rfl (rest := _) (Nat.le_of_ble_eq_true rfl) hb.1 hb.2 ?_
          obtain ⟨r38, hr38⟩ := bP_ex ho
          replace ho := bP_go ho hr38
          refine sl_13037 h2 hr38 ?_
          refine us_icmp_ne hR dL_isMarked_76 83 (by decide) (fun c39 => ?_) (fun c39 => ?_)
          · rw [if_neg c39] at ho
            exact h13038_J83 l0 l1 l2 l3 l4 l5 l6 l7 l8 l9 r34 _ S Ga _ _ h2 ho
          · rw [if_pos c39] at ho
            refine us_iconstC hR dL_isMarked_79 (c := 1) (by decide) ?_
            refine us_goto hR dL_isMarked_80 84 (by decide) ?_
            exact h13038_J84 l0 l1 l2 l3 l4 l5 l6 l7 l8 l9 r34 1 _ S Ga _ _ h2 ho
  change R _ _ _ _ 3000 18000
  refine us_iload hR dL_isMarked_0 rfl ?_
  refine us_bipushC hR dL_isMarked_2 (c := 6) (by decide) ?_
  refine us_callS hR dL_isMarked_4 (y := 13001) (by decide +kernel) (by decide) (J := i13001) rfl rfl rfl rfl (rest := _) (Nat.le_of_ble_eq_true rfl) (Nat.zero_le _) (Nat.zero_le _) ?_
  obtain ⟨r40, hr40⟩ := bP_ex ho
  replace ho := bP_go ho hr40
  refine sh_13001 h2.1 hr40 ?_
  refine us_istore hR dL_isMarked_7 (Nat.le_of_ble_eq_true rfl) ?_
  refine us_iload hR dL_isMarked_9 rfl ?_
  refine us_iconstC hR dL_isMarked_11 (c := 3) (by decide) ?_
  refine us_ishr hR dL_isMarked_12 ?_
  refine us_aload hR dL_isMarked_13 rfl ?_
  refine us_iconstC hR dL_isMarked_15 (c := 0) (by decide) ?_
  have hg := gd_c ho
  rw [gd_e hg] at ho
  refine ul_iaload h2 hg hR dL_isMarked_16 ?_
  refine us_callS hR dL_isMarked_17 (y := 13001) (by decide +kernel) (by decide) (J := i13001) rfl rfl rfl rfl (rest := _) (Nat.le_of_ble_eq_true rfl) (Nat.zero_le _) (Nat.zero_le _) ?_
  obtain ⟨r41, hr41⟩ := bP_ex ho
  replace ho := bP_go ho hr41
  refine sh_13001 h2.1 hr41 ?_
  refine us_istore hR dL_isMarked_20 (Nat.le_of_ble_eq_true rfl) ?_
  refine us_iconstC hR dL_isMarked_22 (c := (-1)) (by decide) ?_
  refine us_istore hR dL_isMarked_23 (Nat.le_of_ble_eq_true rfl) ?_
  refine us_iconstC hR dL_isMarked_25 (c := 0) (by decide) ?_
  refine us_istore hR dL_isMarked_26 (Nat.le_of_ble_eq_true rfl) ?_
  exact h13038_L28 _ x0 x1 x2 x3 x4 x5 r40 r41 (-1) 0 _ _ S G _ _ h2 ho
def l_13039_J333 (l0 : Nat) (l1 : Nat) (l2 : Int32) (l3 : Nat) (l4 : Int32) (l5 : Nat) (l6 : Int32) (l7 : Int32) (l8 : Int32) (l9 : Int32) (l10 : Int32) (l11 : Int32) (bc bs : Nat) (S : Lx) : Option (Lx × Int32) :=
  if l10 = 0 then
    some (S, 0)
  else
    gd (vi (4 + l8) (S.2 l3).length) <|
    gd (tK S.1 l0 = 12) <|
    gd ((2 : Nat) ≤ bc ∧ 12 ≤ bs) <|
    bP (h_13016 l0 l9 (xg (S.2 l3) (4 + l8)) S.1) fun r2 =>
    if r2 = (-1000001) then
      gd (tK S.1 l0 = 12) <|
      gd ((2 : Nat) ≤ (bc - 2) ∧ 12 ≤ (bs - 12)) <|
      bP (h_13015 l0 l9 (-1) S.1) fun r4 =>
      if r4 = (-1000001) then
        some (S, 1)
      else
        some (S, 0)
    else
      some (S, 0)
def l_13039_J317 (k159 : Nat → Nat → Int32 → Nat → Int32 → Nat → Int32 → Int32 → Int32 → Int32 → Int32 → Int32 → Nat → Nat → Lx → Option (Lx × Int32)) (l0 : Nat) (l1 : Nat) (l2 : Int32) (l3 : Nat) (l4 : Int32) (l5 : Nat) (l6 : Int32) (l7 : Int32) (l8 : Int32) (l9 : Int32) (l10 : Int32) (l11 : Int32) (l12 : Int32) (l13 : Int32) (l14 : Int32) (l15 : Int32) (k0 : Int32) (k1 : Int32) (bc bs : Nat) (S : Lx) : Option (Lx × Int32) :=
  if k1 = k0 then
    k159 l0 l1 l2 l3 l4 l5 l6 l7 l8 l9 1 (l11 + 1) bc bs S
  else
    k159 l0 l1 l2 l3 l4 l5 l6 l7 l8 l9 0 (l11 + 1) bc bs S
def l_13039_J284 (k159 : Nat → Nat → Int32 → Nat → Int32 → Nat → Int32 → Int32 → Int32 → Int32 → Int32 → Int32 → Nat → Nat → Lx → Option (Lx × Int32)) (l0 : Nat) (l1 : Nat) (l2 : Int32) (l3 : Nat) (l4 : Int32) (l5 : Nat) (l6 : Int32) (l7 : Int32) (l8 : Int32) (l9 : Int32) (l10 : Int32) (l11 : Int32) (l12 : Int32) (l13 : Int32) (l14 : Int32) (k0 : Int32) (bc bs : Nat) (S : Lx) : Option (Lx × Int32) :=
  gd (tK S.1 l0 = 12) <|
  gd ((2 : Nat) ≤ bc ∧ 12 ≤ bs) <|
  bP (h_13016 l0 l9 l11 S.1) fun r7 =>
  if r7 = l13 then
    gd (tK S.1 l0 = 12) <|
    gd ((2 : Nat) ≤ (bc - 2) ∧ 12 ≤ (bs - 12)) <|
    bP (h_13015 l0 l9 l11 S.1) fun r9 =>
    if k0 = 0 then
      l_13039_J317 k159 l0 l1 l2 l3 l4 l5 l6 l7 l8 l9 l10 l11 l12 l13 l14 k0 0 r9 ((bc - 2) - 2) ((bs - 12) - 12) S
    else
      l_13039_J317 k159 l0 l1 l2 l3 l4 l5 l6 l7 l8 l9 l10 l11 l12 l13 l14 k0 1 r9 ((bc - 2) - 2) ((bs - 12) - 12) S
  else
    k159 l0 l1 l2 l3 l4 l5 l6 l7 l8 l9 0 (l11 + 1) (bc - 2) (bs - 12) S
def l_13039_J283 (k159 : Nat → Nat → Int32 → Nat → Int32 → Nat → Int32 → Int32 → Int32 → Int32 → Int32 → Int32 → Nat → Nat → Lx → Option (Lx × Int32)) (l0 : Nat) (l1 : Nat) (l2 : Int32) (l3 : Nat) (l4 : Int32) (l5 : Nat) (l6 : Int32) (l7 : Int32) (l8 : Int32) (l9 : Int32) (l10 : Int32) (l11 : Int32) (l12 : Int32) (l13 : Int32) (l14 : Int32) (bc bs : Nat) (S : Lx) : Option (Lx × Int32) :=
  l_13039_J284 k159 l0 l1 l2 l3 l4 l5 l6 l7 l8 l9 l10 l11 l12 l13 l14 0 bc bs S
def l_13039_J279 (k159 : Nat → Nat → Int32 → Nat → Int32 → Nat → Int32 → Int32 → Int32 → Int32 → Int32 → Int32 → Nat → Nat → Lx → Option (Lx × Int32)) (l0 : Nat) (l1 : Nat) (l2 : Int32) (l3 : Nat) (l4 : Int32) (l5 : Nat) (l6 : Int32) (l7 : Int32) (l8 : Int32) (l9 : Int32) (l10 : Int32) (l11 : Int32) (l12 : Int32) (l13 : Int32) (l14 : Int32) (bc bs : Nat) (S : Lx) : Option (Lx × Int32) :=
  l_13039_J284 k159 l0 l1 l2 l3 l4 l5 l6 l7 l8 l9 l10 l11 l12 l13 l14 1 bc bs S
def l_13039_J258 (k159 : Nat → Nat → Int32 → Nat → Int32 → Nat → Int32 → Int32 → Int32 → Int32 → Int32 → Int32 → Nat → Nat → Lx → Option (Lx × Int32)) (l0 : Nat) (l1 : Nat) (l2 : Int32) (l3 : Nat) (l4 : Int32) (l5 : Nat) (l6 : Int32) (l7 : Int32) (l8 : Int32) (l9 : Int32) (l10 : Int32) (l11 : Int32) (l12 : Int32) (l13 : Int32) (l14 : Int32) (bc bs : Nat) (S : Lx) : Option (Lx × Int32) :=
  if l14 < 2 then
    l_13039_J279 k159 l0 l1 l2 l3 l4 l5 l6 l7 l8 l9 l10 l11 l12 l13 l14 bc bs S
  else
    gd (tK S.1 l0 = 12) <|
    gd ((1 : Nat) ≤ bc ∧ 6 ≤ bs) <|
    bP (h_13008 l0 1 S.1) fun r12 =>
    gd (vi l12 (S.2 l2).length) <|
    gd (¬ (64 : Int32) = 0) <|
    if r12 = ((xg (S.2 l2) l12) / 64) then
      l_13039_J279 k159 l0 l1 l2 l3 l4 l5 l6 l7 l8 l9 l10 l11 l12 l13 l14 (bc - 1) (bs - 6) S
    else
      l_13039_J283 k159 l0 l1 l2 l3 l4 l5 l6 l7 l8 l9 l10 l11 l12 l13 l14 (bc - 1) (bs - 6) S
def l_13039_L159 : Nat → Nat → Nat → Int32 → Nat → Int32 → Nat → Int32 → Int32 → Int32 → Int32 → Int32 → Int32 → Nat → Nat → Lx → Option (Lx × Int32)
  | 0, _, _, _, _, _, _, _, _, _, _, _, _, _, _, _ => none
  | n + 1, l0, l1, l2, l3, l4, l5, l6, l7, l8, l9, l10, l11, bc, bs, S =>
    gd (vi (4 + l8) (S.2 l3).length) <|
    if (xg (S.2 l3) (4 + l8)) ≤ l11 then
      l_13039_J333 l0 l1 l2 l3 l4 l5 l6 l7 l8 l9 l10 l11 bc bs S
    else
      if l10 = 0 then
        l_13039_J333 l0 l1 l2 l3 l4 l5 l6 l7 l8 l9 l10 l11 bc bs S
      else
        gd (vi l8 (S.2 l3).length) <|
        gd (¬ (4096 : Int32) = 0) <|
        gd (vi (2 * ((8 * l8) + l11)) (S.2 l1).length) <|
        gd (vi ((2 * ((8 * l8) + l11)) + 1) (S.2 l1).length) <|
        gd (tK S.1 l0 = 12) <|
        gd ((42 : Nat) ≤ bc ∧ 3712 ≤ bs) <|
        bO (h_13006 l0 ((xg (S.2 l3) l8) % 4096) (xg (S.2 l1) (2 * ((8 * l8) + l11))) (xg (S.2 l1) ((2 * ((8 * l8) + l11)) + 1)) S.1) fun T16 r16 => bS (lT S T16) fun S16 =>
        gd (vi ((8 * l8) + l11) (S16.2 l2).length) <|
        gd (¬ (4 : Int32) = 0) <|
        if r16 = 0 then
          gd (tK S16.1 l0 = 12) <|
          bP (h_11011 l0 S16.1) fun r18 =>
          if r18 = ((xg (S16.2 l2) ((8 * l8) + l11)) % 4) then
            if ((xg (S16.2 l2) ((8 * l8) + l11)) % 4) < 1 then
              l_13039_J258 (l_13039_L159 n) l0 l1 l2 l3 l4 l5 l6 l7 l8 l9 l10 l11 ((8 * l8) + l11) r16 ((xg (S16.2 l2) ((8 * l8) + l11)) % 4) (bc - 42) (bs - 3712) S16
            else
              gd (tK S16.1 l0 = 12) <|
              gd ((1 : Nat) ≤ (bc - 42) ∧ 6 ≤ (bs - 3712)) <|
              bP (h_13008 l0 0 S16.1) fun r21 =>
              gd (vi ((8 * l8) + l11) (S16.2 l2).length) <|
              gd (¬ (4 : Int32) = 0) <|
              gd (¬ (16 : Int32) = 0) <|
              if r21 = (((xg (S16.2 l2) ((8 * l8) + l11)) / 4) % 16) then
                l_13039_J258 (l_13039_L159 n) l0 l1 l2 l3 l4 l5 l6 l7 l8 l9 l10 l11 ((8 * l8) + l11) r16 ((xg (S16.2 l2) ((8 * l8) + l11)) % 4) ((bc - 42) - 1) ((bs - 3712) - 6) S16
              else
                l_13039_J283 (l_13039_L159 n) l0 l1 l2 l3 l4 l5 l6 l7 l8 l9 l10 l11 ((8 * l8) + l11) r16 ((xg (S16.2 l2) ((8 * l8) + l11)) % 4) ((bc - 42) - 1) ((bs - 3712) - 6) S16
          else
            l_13039_J283 (l_13039_L159 n) l0 l1 l2 l3 l4 l5 l6 l7 l8 l9 l10 l11 ((8 * l8) + l11) r16 ((xg (S16.2 l2) ((8 * l8) + l11)) % 4) (bc - 42) (bs - 3712) S16
        else
          l_13039_J283 (l_13039_L159 n) l0 l1 l2 l3 l4 l5 l6 l7 l8 l9 l10 l11 ((8 * l8) + l11) r16 ((xg (S16.2 l2) ((8 * l8) + l11)) % 4) (bc - 42) (bs - 3712) S16
def l_13039 (x0 : Nat) (x1 : Nat) (x2 : Int32) (x3 : Nat) (x4 : Int32) (x5 : Nat) (x6 : Int32) (x7 : Nat) (x8 : Int32) (x9 : Nat) (x10 : Int32) (x11 : Int32) (S : Lx) : Option (Lx × Int32) :=
  bP (h_13001 x6 6 S.1) fun r23 =>
  gd (vi 0 (S.2 x5).length) <|
  bP (h_13001 (x6 >>> (3 &&& 31)) (xg (S.2 x5) 0) S.1) fun r24 =>
  gd (tK S.1 x0 = 12) <|
  bO (h_13014 x0 r23 r24 S.1) fun T25 r25 => bS (lT S T25) fun S25 =>
  gd (vi 1 (S25.2 x5).length) <|
  if (xg (S25.2 x5) 1) = 30 then
    if r25 = (-1000003) then
      some (S25, 1)
    else
      some (S25, 0)
  else
    gd (vi 1 (S25.2 x5).length) <|
    gd (vi 2 (S25.2 x5).length) <|
    gd (vi (xg (S25.2 x5) 1) (S25.2 x4).length) <|
    bS (lSet S25 x4 (xg (S25.2 x5) 1) ((r23 + (8 * r24)) + (32 * (xg (S25.2 x5) 2)))) fun S27 =>
    gd (vi 1 (S27.2 x5).length) <|
    gd (vi 1 (S27.2 x5).length) <|
    bS (lSet S27 x5 1 ((xg (S27.2 x5) 1) + 1)) fun S28 =>
    gd (vi 1 (S28.2 x5).length) <|
    if r25 = ((xg (S28.2 x5) 1) - 1) then
      gd (tK S28.1 x0 = 12) <|
      bP (h_13022 x0 r25 S28.1) fun r30 =>
      gd (vi 3 (S28.2 x5).length) <|
      if r30 = (xg (S28.2 x5) 3) then
        gd (tK S28.1 x0 = 12) <|
        bP (h_13023 x0 r25 r25 S28.1) fun r32 =>
        gd (vi 3 (S28.2 x5).length) <|
        if r32 = (xg (S28.2 x5) 3) then
          gd (tK S28.1 x0 = 12) <|
          bP (h_13024 x0 r25 r25 S28.1) fun r34 =>
          if r34 = 100 then
            gd (tK S28.1 x0 = 12) <|
            bO (h_13014 x0 6 0 S28.1) fun T36 r36 => bS (lT S28 T36) fun S36 =>
            if r36 = (-1000001) then
              l_13039_L159 12 x0 x1 x2 x3 x4 x5 x6 r23 r24 r25 1 0 430 30040 S36
            else
              l_13039_L159 12 x0 x1 x2 x3 x4 x5 x6 r23 r24 r25 0 0 430 30040 S36
          else
            l_13039_L159 12 x0 x1 x2 x3 x4 x5 x6 r23 r24 r25 0 0 560 39240 S28
        else
          l_13039_L159 12 x0 x1 x2 x3 x4 x5 x6 r23 r24 r25 0 0 566 39276 S28
      else
        l_13039_L159 12 x0 x1 x2 x3 x4 x5 x6 r23 r24 r25 0 0 569 39294 S28
    else
      l_13039_L159 12 x0 x1 x2 x3 x4 x5 x6 r23 r24 r25 0 0 570 39300 S28
set_option maxRecDepth 8000 in
theorem sl_13039 {d : Nat} {G : ab_G} {S : Lx} {P : ab_Pq} {X : ab_Xq} (h2 : LRep G S) {x0 : Nat} {x1 : Nat} {x2 : Int32} {x3 : Nat} {x4 : Int32} {x5 : Nat} {x6 : Int32} {x7 : Nat} {x8 : Int32} {x9 : Nat} {x10 : Int32} {x11 : Int32} {o : Lx × Int32} (ho : l_13039 x0 x1 x2 x3 x4 x5 x6 x7 x8 x9 x10 x11 S = some o) (h : ∀ G1, (o.2 = 0 ∨ o.2 = 1) → LRep G1 o.1 → P G1 (some (.int o.2))) : ab_Gam (d + 917) 13039 [.ref x0, .ref x1, .int x2, .ref x3, .int x4, .ref x5, .int x6, .ref x7, .int x8, .ref x9, .int x10, .int x11] G P X := by
  unfold l_13039 at ho
  refine ab_enter (I := i13039) rfl (Nat.le_of_ble_eq_true rfl) (fun R hR => ?_)
  have h13039_J333 : ∀ (l0 : Nat) (l1 : Nat) (l2 : Int32) (l3 : Nat) (l4 : Int32) (l5 : Nat) (l6 : Int32) (l7 : Int32) (l8 : Int32) (l9 : Int32) (l10 : Int32) (l11 : Int32) (w12 : Option Value) (w13 : Option Value) (w14 : Option Value) (w15 : Option Value) (S : Lx) (Ga : ab_G) (bc bs : Nat) (h2 : LRep Ga S) (ho : l_13039_J333 l0 l1 l2 l3 l4 l5 l6 l7 l8 l9 l10 l11 bc bs S = some o), R 333 [some (.ref l0), some (.ref l1), some (.int l2), some (.ref l3), some (.int l4), some (.ref l5), some (.int l6), some (.int l7), some (.int l8), some (.int l9), some (.int l10), some (.int l11), w12, w13, w14, w15] [] Ga bc bs := by
    intro l0 l1 l2 l3 l4 l5 l6 l7 l8 l9 l10 l11 w12 w13 w14 w15 S Ga bc bs h2 ho
    unfold l_13039_J333 at ho
    refine us_iload hR dL_hands_333 rfl ?_
    refine us_if_eq hR dL_hands_335 371 (by decide) (fun c1 => ?_) (fun c1 => ?_)
    · rw [if_pos c1] at ho
      refine us_iconstC hR dL_hands_371 (c := 0) (by decide) ?_
      refine us_iret hR dL_hands_372 rfl (nar01 (Or.inl rfl)) ?_
      cases ho
      exact h _ (Or.inl rfl) h2
    · rw [if_neg c1] at ho
      refine us_aload_n hR dL_hands_338 rfl ?_
      refine us_iload hR dL_hands_339 rfl ?_
      refine us_aload_n hR dL_hands_341 rfl ?_
      refine us_iconstC hR dL_hands_342 (c := 4) (by decide) ?_
      refine us_iload hR dL_hands_343 rfl ?_
      refine us_iadd hR dL_hands_345 ?_
      have hg := gd_c ho
      rw [gd_e hg] at ho
      refine ul_iaload h2 hg hR dL_hands_346 ?_
      have hg := gd_c ho
      rw [gd_e hg] at ho
      have hme := hg
      have hb := gd_c ho
      rw [gd_e hb] at ho
      refine us_callS hR dL_hands_347 (y := 13016) (by decide +kernel) (by decide) (J := i13016) rfl rfl rfl rfl (rest := _) (Nat.le_of_ble_eq_true rfl) hb.1 hb.2 ?_
      obtain ⟨r2, hr2⟩ := bP_ex ho
      replace ho := bP_go ho hr2
      refine sh_13016 h2.1 hme hr2 ?_
      refine us_ldc hR dL_hands_350 (v := (-1000001)) (by decide +kernel) ?_
      refine us_icmp_ne hR dL_hands_352 371 (by decide) (fun c3 => ?_) (fun c3 => ?_)
      · rw [if_neg c3] at ho
        refine us_iconstC hR dL_hands_371 (c := 0) (by decide) ?_
        refine us_iret hR dL_hands_372 rfl (nar01 (Or.inl rfl)) ?_
        cases ho
        exact h _ (Or.inl rfl) h2
      · rw [if_pos c3] at ho
        refine us_aload_n hR dL_hands_355 rfl ?_
        refine us_iload hR dL_hands_356 rfl ?_
        refine us_iconstC hR dL_hands_358 (c := (-1)) (by decide) ?_
        have hg := gd_c ho
        rw [gd_e hg] at ho
        have hme := hg
        have hb := gd_c ho
        rw [gd_e hb] at ho
        refine us_callS hR dL_hands_359 (y := 13015) (by decide +kernel) (by decide) (J := i13015) rfl rfl rfl rfl (rest := _) (Nat.le_of_ble_eq_true rfl) hb.1 hb.2 ?_
        obtain ⟨r4, hr4⟩ := bP_ex ho
        replace ho := bP_go ho hr4
        refine sh_13015 h2.1 hme hr4 ?_
        refine us_ldc hR dL_hands_362 (v := (-1000001)) (by decide +kernel) ?_
        refine us_icmp_ne hR dL_hands_364 371 (by decide) (fun c5 => ?_) (fun c5 => ?_)
        · rw [if_neg c5] at ho
          refine us_iconstC hR dL_hands_371 (c := 0) (by decide) ?_
          refine us_iret hR dL_hands_372 rfl (nar01 (Or.inl rfl)) ?_
          cases ho
          exact h _ (Or.inl rfl) h2
        · rw [if_pos c5] at ho
          refine us_iconstC hR dL_hands_367 (c := 1) (by decide) ?_
          refine us_goto hR dL_hands_368 372 (by decide) ?_
          refine us_iret hR dL_hands_372 rfl (nar01 (Or.inr rfl)) ?_
          cases ho
          exact h _ (Or.inr rfl) h2
  have h13039_L159 : ∀ (n : Nat) (l0 : Nat) (l1 : Nat) (l2 : Int32) (l3 : Nat) (l4 : Int32) (l5 : Nat) (l6 : Int32) (l7 : Int32) (l8 : Int32) (l9 : Int32) (l10 : Int32) (l11 : Int32) (w12 : Option Value) (w13 : Option Value) (w14 : Option Value) (w15 : Option Value) (S : Lx) (Ga : ab_G) (bc bs : Nat) (h2 : LRep Ga S) (ho : l_13039_L159 n l0 l1 l2 l3 l4 l5 l6 l7 l8 l9 l10 l11 bc bs S = some o), R 159 [some (.ref l0), some (.ref l1), some (.int l2), some (.ref l3), some (.int l4), some (.ref l5), some (.int l6), some (.int l7), some (.int l8), some (.int l9), some (.int l10), some (.int l11), w12, w13, w14, w15] [] Ga bc bs := by
    intro n
    induction n with
    | zero => intro l0 l1 l2 l3 l4 l5 l6 l7 l8 l9 l10 l11 w12 w13 w14 w15 S Ga bc bs h2 ho; exact absurd ho (by intro hc; cases hc)
    | succ n159 ih159 =>
      have h13039_J317 : ∀ (l0 : Nat) (l1 : Nat) (l2 : Int32) (l3 : Nat) (l4 : Int32) (l5 : Nat) (l6 : Int32) (l7 : Int32) (l8 : Int32) (l9 : Int32) (l10 : Int32) (l11 : Int32) (l12 : Int32) (l13 : Int32) (l14 : Int32) (l15 : Int32) (k0 : Int32) (k1 : Int32)  (S : Lx) (Ga : ab_G) (bc bs : Nat) (h2 : LRep Ga S) (ho : l_13039_J317 (l_13039_L159 n159) l0 l1 l2 l3 l4 l5 l6 l7 l8 l9 l10 l11 l12 l13 l14 l15 k0 k1 bc bs S = some o), R 317 [some (.ref l0), some (.ref l1), some (.int l2), some (.ref l3), some (.int l4), some (.ref l5), some (.int l6), some (.int l7), some (.int l8), some (.int l9), some (.int l10), some (.int l11), some (.int l12), some (.int l13), some (.int l14), some (.int l15)] [.int k0, .int k1] Ga bc bs := by
        intro l0 l1 l2 l3 l4 l5 l6 l7 l8 l9 l10 l11 l12 l13 l14 l15 k0 k1  S Ga bc bs h2 ho
        unfold l_13039_J317 at ho
        refine us_icmp_ne hR dL_hands_317 324 (by decide) (fun c6 => ?_) (fun c6 => ?_)
        · rw [if_neg c6] at ho
          refine us_iconstC hR dL_hands_324 (c := 0) (by decide) ?_
          refine us_istore hR dL_hands_325 (Nat.le_of_ble_eq_true rfl) ?_
          refine us_iincC hR dL_hands_327 rfl (Nat.le_of_ble_eq_true rfl) (c := 1) (by decide) ?_
          refine us_goto hR dL_hands_330 159 (by decide) ?_
          exact ih159 l0 l1 l2 l3 l4 l5 l6 l7 l8 l9 0 (l11 + 1) _ _ _ _ S Ga _ _ h2 ho
        · rw [if_pos c6] at ho
          refine us_iconstC hR dL_hands_320 (c := 1) (by decide) ?_
          refine us_goto hR dL_hands_321 325 (by decide) ?_
          refine us_istore hR dL_hands_325 (Nat.le_of_ble_eq_true rfl) ?_
          refine us_iincC hR dL_hands_327 rfl (Nat.le_of_ble_eq_true rfl) (c := 1) (by decide) ?_
          refine us_goto hR dL_hands_330 159 (by decide) ?_
          exact ih159 l0 l1 l2 l3 l4 l5 l6 l7 l8 l9 1 (l11 + 1) _ _ _ _ S Ga _ _ h2 ho
      have h13039_J284 : ∀ (l0 : Nat) (l1 : Nat) (l2 : Int32) (l3 : Nat) (l4 : Int32) (l5 : Nat) (l6 : Int32) (l7 : Int32) (l8 : Int32) (l9 : Int32) (l10 : Int32) (l11 : Int32) (l12 : Int32) (l13 : Int32) (l14 : Int32) (k0 : Int32) (w15 : Option Value) (S : Lx) (Ga : ab_G) (bc bs : Nat) (h2 : LRep Ga S) (ho : l_13039_J284 (l_13039_L159 n159) l0 l1 l2 l3 l4 l5 l6 l7 l8 l9 l10 l11 l12 l13 l14 k0 bc bs S = some o), R 284 [some (.ref l0), some (.ref l1), some (.int l2), some (.ref l3), some (.int l4), some (.ref l5), some (.int l6), some (.int l7), some (.int l8), some (.int l9), some (.int l10), some (.int l11), some (.int l12), some (.int l13), some (.int l14), w15] [.int k0] Ga bc bs := by
        intro l0 l1 l2 l3 l4 l5 l6 l7 l8 l9 l10 l11 l12 l13 l14 k0 w15 S Ga bc bs h2 ho
        unfold l_13039_J284 at ho
        refine us_istore hR dL_hands_284 (Nat.le_of_ble_eq_true rfl) ?_
        refine us_aload_n hR dL_hands_286 rfl ?_
        refine us_iload hR dL_hands_287 rfl ?_
        refine us_iload hR dL_hands_289 rfl ?_
        have hg := gd_c ho
        rw [gd_e hg] at ho
        have hme := hg
        have hb := gd_c ho
        rw [gd_e hb] at ho
        refine us_callS hR dL_hands_291 (y := 13016) (by decide +kernel) (by decide) (J := i13016) rfl rfl rfl rfl (rest := _) (Nat.le_of_ble_eq_true rfl) hb.1 hb.2 ?_
        obtain ⟨r7, hr7⟩ := bP_ex ho
        replace ho := bP_go ho hr7
        refine sh_13016 h2.1 hme hr7 ?_
        refine us_iload hR dL_hands_294 rfl ?_
        refine us_icmp_ne hR dL_hands_296 324 (by decide) (fun c8 => ?_) (fun c8 => ?_)
        · rw [if_neg c8] at ho
          refine us_iconstC hR dL_hands_324 (c := 0) (by decide) ?_
          refine us_istore hR dL_hands_325 (Nat.le_of_ble_eq_true rfl) ?_
          refine us_iincC hR dL_hands_327 rfl (Nat.le_of_ble_eq_true rfl) (c := 1) (by decide) ?_
          refine us_goto hR dL_hands_330 159 (by decide) ?_
          exact ih159 l0 l1 l2 l3 l4 l5 l6 l7 l8 l9 0 (l11 + 1) _ _ _ _ S Ga _ _ h2 ho
        · rw [if_pos c8] at ho
          refine us_aload_n hR dL_hands_299 rfl ?_
          refine us_iload hR dL_hands_300 rfl ?_
          refine us_iload hR dL_hands_302 rfl ?_
          have hg := gd_c ho
          rw [gd_e hg] at ho
          have hme := hg
          have hb := gd_c ho
          rw [gd_e hb] at ho
          refine us_callS hR dL_hands_304 (y := 13015) (by decide +kernel) (by decide) (J := i13015) rfl rfl rfl rfl (rest := _) (Nat.le_of_ble_eq_true rfl) hb.1 hb.2 ?_
          obtain ⟨r9, hr9⟩ := bP_ex ho
          replace ho := bP_go ho hr9
          refine sh_13015 h2.1 hme hr9 ?_
          refine us_iload hR dL_hands_307 rfl ?_
          refine us_if_eq hR dL_hands_309 316 (by decide) (fun c10 => ?_) (fun c10 => ?_)
          · rw [if_pos c10] at ho
            refine us_iconstC hR dL_hands_316 (c := 0) (by decide) ?_
            exact h13039_J317 l0 l1 l2 l3 l4 l5 l6 l7 l8 l9 l10 l11 l12 l13 l14 k0 0 r9  S Ga _ _ h2 ho
          · rw [if_neg c10] at ho
            refine us_iconstC hR dL_hands_312 (c := 1) (by decide) ?_
            refine us_goto hR dL_hands_313 317 (by decide) ?_
            exact h13039_J317 l0 l1 l2 l3 l4 l5 l6 l7 l8 l9 l10 l11 l12 l13 l14 k0 1 r9  S Ga _ _ h2 ho
      have h13039_J283 : ∀ (l0 : Nat) (l1 : Nat) (l2 : Int32) (l3 : Nat) (l4 : Int32) (l5 : Nat) (l6 : Int32) (l7 : Int32) (l8 : Int32) (l9 : Int32) (l10 : Int32) (l11 : Int32) (l12 : Int32) (l13 : Int32) (l14 : Int32) (w15 : Option Value) (S : Lx) (Ga : ab_G) (bc bs : Nat) (h2 : LRep Ga S) (ho : l_13039_J283 (l_13039_L159 n159) l0 l1 l2 l3 l4 l5 l6 l7 l8 l9 l10 l11 l12 l13 l14 bc bs S = some o), R 283 [some (.ref l0), some (.ref l1), some (.int l2), some (.ref l3), some (.int l4), some (.ref l5), some (.int l6), some (.int l7), some (.int l8), some (.int l9), some (.int l10), some (.int l11), some (.int l12), some (.int l13), some (.int l14), w15] [] Ga bc bs := by
        intro l0 l1 l2 l3 l4 l5 l6 l7 l8 l9 l10 l11 l12 l13 l14 w15 S Ga bc bs h2 ho
        unfold l_13039_J283 at ho
        refine us_iconstC hR dL_hands_283 (c := 0) (by decide) ?_
        exact h13039_J284 l0 l1 l2 l3 l4 l5 l6 l7 l8 l9 l10 l11 l12 l13 l14 0 _ S Ga _ _ h2 ho
      have h13039_J279 : ∀ (l0 : Nat) (l1 : Nat) (l2 : Int32) (l3 : Nat) (l4 : Int32) (l5 : Nat) (l6 : Int32) (l7 : Int32) (l8 : Int32) (l9 : Int32) (l10 : Int32) (l11 : Int32) (l12 : Int32) (l13 : Int32) (l14 : Int32) (w15 : Option Value) (S : Lx) (Ga : ab_G) (bc bs : Nat) (h2 : LRep Ga S) (ho : l_13039_J279 (l_13039_L159 n159) l0 l1 l2 l3 l4 l5 l6 l7 l8 l9 l10 l11 l12 l13 l14 bc bs S = some o), R 279 [some (.ref l0), some (.ref l1), some (.int l2), some (.ref l3), some (.int l4), some (.ref l5), some (.int l6), some (.int l7), some (.int l8), some (.int l9), some (.int l10), some (.int l11), some (.int l12), some (.int l13), some (.int l14), w15] [] Ga bc bs := by
        intro l0 l1 l2 l3 l4 l5 l6 l7 l8 l9 l10 l11 l12 l13 l14 w15 S Ga bc bs h2 ho
        unfold l_13039_J279 at ho
        refine us_iconstC hR dL_hands_279 (c := 1) (by decide) ?_
        refine us_goto hR dL_hands_280 284 (by decide) ?_
        exact h13039_J284 l0 l1 l2 l3 l4 l5 l6 l7 l8 l9 l10 l11 l12 l13 l14 1 _ S Ga _ _ h2 ho
      have h13039_J258 : ∀ (l0 : Nat) (l1 : Nat) (l2 : Int32) (l3 : Nat) (l4 : Int32) (l5 : Nat) (l6 : Int32) (l7 : Int32) (l8 : Int32) (l9 : Int32) (l10 : Int32) (l11 : Int32) (l12 : Int32) (l13 : Int32) (l14 : Int32) (w15 : Option Value) (S : Lx) (Ga : ab_G) (bc bs : Nat) (h2 : LRep Ga S) (ho : l_13039_J258 (l_13039_L159 n159) l0 l1 l2 l3 l4 l5 l6 l7 l8 l9 l10 l11 l12 l13 l14 bc bs S = some o), R 258 [some (.ref l0), some (.ref l1), some (.int l2), some (.ref l3), some (.int l4), some (.ref l5), some (.int l6), some (.int l7), some (.int l8), some (.int l9), some (.int l10), some (.int l11), some (.int l12), some (.int l13), some (.int l14), w15] [] Ga bc bs := by
        intro l0 l1 l2 l3 l4 l5 l6 l7 l8 l9 l10 l11 l12 l13 l14 w15 S Ga bc bs h2 ho
        unfold l_13039_J258 at ho
        refine us_iload hR dL_hands_258 rfl ?_
        refine us_iconstC hR dL_hands_260 (c := 2) (by decide) ?_
        refine us_icmp_lt hR dL_hands_261 279 (by decide) (fun c11 => ?_) (fun c11 => ?_)
        · rw [if_pos c11] at ho
          exact h13039_J279 l0 l1 l2 l3 l4 l5 l6 l7 l8 l9 l10 l11 l12 l13 l14 _ S Ga _ _ h2 ho
        · rw [if_neg c11] at ho
          refine us_aload_n hR dL_hands_264 rfl ?_
          refine us_iconstC hR dL_hands_265 (c := 1) (by decide) ?_
          have hg := gd_c ho
          rw [gd_e hg] at ho
          have hme := hg
          have hb := gd_c ho
          rw [gd_e hb] at ho
          refine us_callS hR dL_hands_266 (y := 13008) (by decide +kernel) (by decide) (J := i13008) rfl rfl rfl rfl (rest := _) (Nat.le_of_ble_eq_true rfl) hb.1 hb.2 ?_
          obtain ⟨r12, hr12⟩ := bP_ex ho
          replace ho := bP_go ho hr12
          refine sh_13008 h2.1 hme hr12 ?_
          refine us_aload_n hR dL_hands_269 rfl ?_
          refine us_iload hR dL_hands_270 rfl ?_
          have hg := gd_c ho
          rw [gd_e hg] at ho
          refine ul_iaload h2 hg hR dL_hands_272 ?_
          refine us_bipushC hR dL_hands_273 (c := 64) (by decide) ?_
          have hg := gd_c ho
          rw [gd_e hg] at ho
          refine us_idiv hR dL_hands_275 hg ?_
          refine us_icmp_ne hR dL_hands_276 283 (by decide) (fun c13 => ?_) (fun c13 => ?_)
          · rw [if_neg c13] at ho
            exact h13039_J283 l0 l1 l2 l3 l4 l5 l6 l7 l8 l9 l10 l11 l12 l13 l14 _ S Ga _ _ h2 ho
          · rw [if_pos c13] at ho
            exact h13039_J279 l0 l1 l2 l3 l4 l5 l6 l7 l8 l9 l10 l11 l12 l13 l14 _ S Ga _ _ h2 ho
      intro l0 l1 l2 l3 l4 l5 l6 l7 l8 l9 l10 l11 w12 w13 w14 w15 S Ga bc bs h2 ho
      rw [l_13039_L159] at ho
      refine us_iload hR dL_hands_159 rfl ?_
      refine us_aload_n hR dL_hands_161 rfl ?_
      refine us_iconstC hR dL_hands_162 (c := 4) (by decide) ?_
      refine us_iload hR dL_hands_163 rfl ?_
      refine us_iadd hR dL_hands_165 ?_
      have hg := gd_c ho
      rw [gd_e hg] at ho
      refine ul_iaload h2 hg hR dL_hands_166 ?_
      refine us_icmp_ge hR dL_hands_167 333 (by decide) (fun c14 => ?_) (fun c14 => ?_)
      · rw [if_pos c14] at ho
        exact h13039_J333 l0 l1 l2 l3 l4 l5 l6 l7 l8 l9 l10 l11 _ _ _ _ S Ga _ _ h2 ho
      · rw [if_neg c14] at ho
        refine us_iload hR dL_hands_170 rfl ?_
        refine us_if_eq hR dL_hands_172 333 (by decide) (fun c15 => ?_) (fun c15 => ?_)
        · rw [if_pos c15] at ho
          exact h13039_J333 l0 l1 l2 l3 l4 l5 l6 l7 l8 l9 l10 l11 _ _ _ _ S Ga _ _ h2 ho
        · rw [if_neg c15] at ho
          refine us_bipushC hR dL_hands_175 (c := 8) (by decide) ?_
          refine us_iload hR dL_hands_177 rfl ?_
          refine us_imul hR dL_hands_179 ?_
          refine us_iload hR dL_hands_180 rfl ?_
          refine us_iadd hR dL_hands_182 ?_
          refine us_istore hR dL_hands_183 (Nat.le_of_ble_eq_true rfl) ?_
          refine us_aload_n hR dL_hands_185 rfl ?_
          refine us_aload_n hR dL_hands_186 rfl ?_
          refine us_iload hR dL_hands_187 rfl ?_
          have hg := gd_c ho
          rw [gd_e hg] at ho
          refine ul_iaload h2 hg hR dL_hands_189 ?_
          refine us_sipushC hR dL_hands_190 (c := 4096) (by decide) ?_
          have hg := gd_c ho
          rw [gd_e hg] at ho
          refine us_irem hR dL_hands_193 hg ?_
          refine us_aload_n hR dL_hands_194 rfl ?_
          refine us_iconstC hR dL_hands_195 (c := 2) (by decide) ?_
          refine us_iload hR dL_hands_196 rfl ?_
          refine us_imul hR dL_hands_198 ?_
          have hg := gd_c ho
          rw [gd_e hg] at ho
          refine ul_iaload h2 hg hR dL_hands_199 ?_
          refine us_aload_n hR dL_hands_200 rfl ?_
          refine us_iconstC hR dL_hands_201 (c := 2) (by decide) ?_
          refine us_iload hR dL_hands_202 rfl ?_
          refine us_imul hR dL_hands_204 ?_
          refine us_iconstC hR dL_hands_205 (c := 1) (by decide) ?_
          refine us_iadd hR dL_hands_206 ?_
          have hg := gd_c ho
          rw [gd_e hg] at ho
          refine ul_iaload h2 hg hR dL_hands_207 ?_
          have hg := gd_c ho
          rw [gd_e hg] at ho
          have hme := hg
          have hb := gd_c ho
          rw [gd_e hb] at ho
          refine us_callS hR dL_hands_208 (y := 13006) (by decide +kernel) (by decide) (J := i13006) rfl rfl rfl rfl (rest := _) (Nat.le_of_ble_eq_true rfl) hb.1 hb.2 ?_
          obtain ⟨q16, hs16⟩ := bO_ex ho
          obtain ⟨T16, r16⟩ := q16
          replace ho := bO_go ho hs16
          refine sh_13006 h2.1 hme hs16 (fun G16 h316 hF16 => ?_)
          have h216 := h2.cls h316 hF16
          obtain ⟨S16, hS16⟩ : ∃ Sz, Sz = lT S T16 := ⟨_, rfl⟩
          rw [bS_eq, ← hS16] at ho
          rw [← hS16] at h216
          refine us_istore hR dL_hands_211 (Nat.le_of_ble_eq_true rfl) ?_
          refine us_aload_n hR dL_hands_213 rfl ?_
          refine us_iload hR dL_hands_214 rfl ?_
          have hg := gd_c ho
          rw [gd_e hg] at ho
          refine ul_iaload h216 hg hR dL_hands_216 ?_
          refine us_iconstC hR dL_hands_217 (c := 4) (by decide) ?_
          have hg := gd_c ho
          rw [gd_e hg] at ho
          refine us_irem hR dL_hands_218 hg ?_
          refine us_istore hR dL_hands_219 (Nat.le_of_ble_eq_true rfl) ?_
          refine us_iload hR dL_hands_221 rfl ?_
          refine us_if_ne hR dL_hands_223 283 (by decide) (fun c17 => ?_) (fun c17 => ?_)
          · rw [if_neg c17] at ho
            exact h13039_J283 l0 l1 l2 l3 l4 l5 l6 l7 l8 l9 l10 l11 ((8 * l8) + l11) r16 ((xg (S16.2 l2) ((8 * l8) + l11)) % 4) _ S16 G16 _ _ h216 ho
          · rw [if_pos c17] at ho
            refine us_aload_n hR dL_hands_226 rfl ?_
            have hg := gd_c ho
            rw [gd_e hg] at ho
            refine us_callV hR dL_hands_227 (y := 11011) (by decide +kernel) (by decide) (J := i11011) rfl rfl rfl rfl (H_kind1 h216.1 hg (by decide)) rfl (Nat.le_of_ble_eq_true rfl) (Nat.zero_le _) (Nat.zero_le _) ?_
            obtain ⟨r18, hr18⟩ := bP_ex ho
            replace ho := bP_go ho hr18
            refine sh_11011 h216.1 hr18 ?_
            refine us_iload hR dL_hands_230 rfl ?_
            refine us_icmp_ne hR dL_hands_232 283 (by decide) (fun c19 => ?_) (fun c19 => ?_)
            · rw [if_neg c19] at ho
              exact h13039_J283 l0 l1 l2 l3 l4 l5 l6 l7 l8 l9 l10 l11 ((8 * l8) + l11) r16 ((xg (S16.2 l2) ((8 * l8) + l11)) % 4) _ S16 G16 _ _ h216 ho
            · rw [if_pos c19] at ho
              refine us_iload hR dL_hands_235 rfl ?_
              refine us_iconstC hR dL_hands_237 (c := 1) (by decide) ?_
              refine us_icmp_lt hR dL_hands_238 258 (by decide) (fun c20 => ?_) (fun c20 => ?_)
              · rw [if_pos c20] at ho
                exact h13039_J258 l0 l1 l2 l3 l4 l5 l6 l7 l8 l9 l10 l11 ((8 * l8) + l11) r16 ((xg (S16.2 l2) ((8 * l8) + l11)) % 4) _ S16 G16 _ _ h216 ho
              · rw [if_neg c20] at ho
                refine us_aload_n hR dL_hands_241 rfl ?_
                refine us_iconstC hR dL_hands_242 (c := 0) (by decide) ?_
                have hg := gd_c ho
                rw [gd_e hg] at ho
                have hme := hg
                have hb := gd_c ho
                rw [gd_e hb] at ho
                refine us_callS hR dL_hands_243 (y := 13008) (by decide +kernel) (by decide) (J := i13008) rfl rfl rfl rfl (rest := _) (Nat.le_of_ble_eq_true rfl) hb.1 hb.2 ?_
                obtain ⟨r21, hr21⟩ := bP_ex ho
                replace ho := bP_go ho hr21
                refine sh_13008 h216.1 hme hr21 ?_
                refine us_aload_n hR dL_hands_246 rfl ?_
                refine us_iload hR dL_hands_247 rfl ?_
                have hg := gd_c ho
                rw [gd_e hg] at ho
                refine ul_iaload h216 hg hR dL_hands_249 ?_
                refine us_iconstC hR dL_hands_250 (c := 4) (by decide) ?_
                have hg := gd_c ho
                rw [gd_e hg] at ho
                refine us_idiv hR dL_hands_251 hg ?_
                refine us_bipushC hR dL_hands_252 (c := 16) (by decide) ?_
                have hg := gd_c ho
                rw [gd_e hg] at ho
                refine us_irem hR dL_hands_254 hg ?_
                refine us_icmp_ne hR dL_hands_255 283 (by decide) (fun c22 => ?_) (fun c22 => ?_)
                · rw [if_neg c22] at ho
                  exact h13039_J283 l0 l1 l2 l3 l4 l5 l6 l7 l8 l9 l10 l11 ((8 * l8) + l11) r16 ((xg (S16.2 l2) ((8 * l8) + l11)) % 4) _ S16 G16 _ _ h216 ho
                · rw [if_pos c22] at ho
                  exact h13039_J258 l0 l1 l2 l3 l4 l5 l6 l7 l8 l9 l10 l11 ((8 * l8) + l11) r16 ((xg (S16.2 l2) ((8 * l8) + l11)) % 4) _ S16 G16 _ _ h216 ho
  change R _ _ _ _ 700 48500
  refine us_iload hR dL_hands_0 rfl ?_
  refine us_bipushC hR dL_hands_2 (c := 6) (by decide) ?_
  refine us_callS hR dL_hands_4 (y := 13001) (by decide +kernel) (by decide) (J := i13001) rfl rfl rfl rfl (rest := _) (Nat.le_of_ble_eq_true rfl) (Nat.zero_le _) (Nat.zero_le _) ?_
  obtain ⟨r23, hr23⟩ := bP_ex ho
  replace ho := bP_go ho hr23
  refine sh_13001 h2.1 hr23 ?_
  refine us_istore hR dL_hands_7 (Nat.le_of_ble_eq_true rfl) ?_
  refine us_iload hR dL_hands_9 rfl ?_
  refine us_iconstC hR dL_hands_11 (c := 3) (by decide) ?_
  refine us_ishr hR dL_hands_12 ?_
  refine us_aload hR dL_hands_13 rfl ?_
  refine us_iconstC hR dL_hands_15 (c := 0) (by decide) ?_
  have hg := gd_c ho
  rw [gd_e hg] at ho
  refine ul_iaload h2 hg hR dL_hands_16 ?_
  refine us_callS hR dL_hands_17 (y := 13001) (by decide +kernel) (by decide) (J := i13001) rfl rfl rfl rfl (rest := _) (Nat.le_of_ble_eq_true rfl) (Nat.zero_le _) (Nat.zero_le _) ?_
  obtain ⟨r24, hr24⟩ := bP_ex ho
  replace ho := bP_go ho hr24
  refine sh_13001 h2.1 hr24 ?_
  refine us_istore hR dL_hands_20 (Nat.le_of_ble_eq_true rfl) ?_
  refine us_aload_n hR dL_hands_22 rfl ?_
  refine us_iload hR dL_hands_23 rfl ?_
  refine us_iload hR dL_hands_25 rfl ?_
  have hg := gd_c ho
  rw [gd_e hg] at ho
  have hme := hg
  refine us_callS hR dL_hands_27 (y := 13014) (by decide +kernel) (by decide) (J := i13014) rfl rfl rfl rfl (rest := _) (Nat.le_of_ble_eq_true rfl) (Nat.le_of_ble_eq_true rfl) (Nat.le_of_ble_eq_true rfl) ?_
  obtain ⟨q25, hs25⟩ := bO_ex ho
  obtain ⟨T25, r25⟩ := q25
  replace ho := bO_go ho hs25
  refine sh_13014 h2.1 hme hs25 (fun G25 h325 hF25 => ?_)
  have h225 := h2.cls h325 hF25
  obtain ⟨S25, hS25⟩ : ∃ Sz, Sz = lT S T25 := ⟨_, rfl⟩
  rw [bS_eq, ← hS25] at ho
  rw [← hS25] at h225
  change R _ _ _ _ 570 39300
  refine us_istore hR dL_hands_30 (Nat.le_of_ble_eq_true rfl) ?_
  refine us_aload hR dL_hands_32 rfl ?_
  refine us_iconstC hR dL_hands_34 (c := 1) (by decide) ?_
  have hg := gd_c ho
  rw [gd_e hg] at ho
  refine ul_iaload h225 hg hR dL_hands_35 ?_
  refine us_bipushC hR dL_hands_36 (c := 30) (by decide) ?_
  refine us_icmp_ne hR dL_hands_38 54 (by decide) (fun c26 => ?_) (fun c26 => ?_)
  · rw [if_neg c26] at ho
    change R _ _ _ _ 570 39300
    refine us_aload hR dL_hands_54 rfl ?_
    refine us_aload hR dL_hands_56 rfl ?_
    refine us_iconstC hR dL_hands_58 (c := 1) (by decide) ?_
    have hg := gd_c ho
    rw [gd_e hg] at ho
    refine ul_iaload h225 hg hR dL_hands_59 ?_
    refine us_iload hR dL_hands_60 rfl ?_
    refine us_bipushC hR dL_hands_62 (c := 8) (by decide) ?_
    refine us_iload hR dL_hands_64 rfl ?_
    refine us_imul hR dL_hands_66 ?_
    refine us_iadd hR dL_hands_67 ?_
    refine us_bipushC hR dL_hands_68 (c := 32) (by decide) ?_
    refine us_aload hR dL_hands_70 rfl ?_
    refine us_iconstC hR dL_hands_72 (c := 2) (by decide) ?_
    have hg := gd_c ho
    rw [gd_e hg] at ho
    refine ul_iaload h225 hg hR dL_hands_73 ?_
    refine us_imul hR dL_hands_74 ?_
    refine us_iadd hR dL_hands_75 ?_
    have hg := gd_c ho
    rw [gd_e hg] at ho
    refine ul_iastore h225 hg hR dL_hands_76 (fun G27 S27 hs27 h227 => ?_)
    rw [← hs27, bS_eq] at ho
    refine us_aload hR dL_hands_77 rfl ?_
    refine us_iconstC hR dL_hands_79 (c := 1) (by decide) ?_
    refine us_dup2 hR dL_hands_80 rfl rfl ?_
    have hg := gd_c ho
    rw [gd_e hg] at ho
    refine ul_iaload h227 hg hR dL_hands_81 ?_
    refine us_iconstC hR dL_hands_82 (c := 1) (by decide) ?_
    refine us_iadd hR dL_hands_83 ?_
    have hg := gd_c ho
    rw [gd_e hg] at ho
    refine ul_iastore h227 hg hR dL_hands_84 (fun G28 S28 hs28 h228 => ?_)
    rw [← hs28, bS_eq] at ho
    refine us_iload hR dL_hands_85 rfl ?_
    refine us_aload hR dL_hands_87 rfl ?_
    refine us_iconstC hR dL_hands_89 (c := 1) (by decide) ?_
    have hg := gd_c ho
    rw [gd_e hg] at ho
    refine ul_iaload h228 hg hR dL_hands_90 ?_
    refine us_iconstC hR dL_hands_91 (c := 1) (by decide) ?_
    refine us_isub hR dL_hands_92 ?_
    refine us_icmp_ne hR dL_hands_93 153 (by decide) (fun c29 => ?_) (fun c29 => ?_)
    · rw [if_neg c29] at ho
      change R _ _ _ _ 570 39300
      refine us_iconstC hR dL_hands_153 (c := 0) (by decide) ?_
      refine us_istore hR dL_hands_154 (Nat.le_of_ble_eq_true rfl) ?_
      refine us_iconstC hR dL_hands_156 (c := 0) (by decide) ?_
      refine us_istore hR dL_hands_157 (Nat.le_of_ble_eq_true rfl) ?_
      exact h13039_L159 _ x0 x1 x2 x3 x4 x5 x6 r23 r24 r25 0 0 _ _ _ _ S28 G28 _ _ h228 ho
    · rw [if_pos c29] at ho
      change R _ _ _ _ 570 39300
      refine us_aload_n hR dL_hands_96 rfl ?_
      refine us_iload hR dL_hands_97 rfl ?_
      have hg := gd_c ho
      rw [gd_e hg] at ho
      have hme := hg
      refine us_callS hR dL_hands_99 (y := 13022) (by decide +kernel) (by decide) (J := i13022) rfl rfl rfl rfl (rest := _) (Nat.le_of_ble_eq_true rfl) (Nat.le_of_ble_eq_true rfl) (Nat.le_of_ble_eq_true rfl) ?_
      obtain ⟨r30, hr30⟩ := bP_ex ho
      replace ho := bP_go ho hr30
      refine sh_13022 h228.1 hme hr30 ?_
      change R _ _ _ _ 569 39294
      refine us_aload hR dL_hands_102 rfl ?_
      refine us_iconstC hR dL_hands_104 (c := 3) (by decide) ?_
      have hg := gd_c ho
      rw [gd_e hg] at ho
      refine ul_iaload h228 hg hR dL_hands_105 ?_
      refine us_icmp_ne hR dL_hands_106 153 (by decide) (fun c31 => ?_) (fun c31 => ?_)
      · rw [if_neg c31] at ho
        change R _ _ _ _ 569 39294
        refine us_iconstC hR dL_hands_153 (c := 0) (by decide) ?_
        refine us_istore hR dL_hands_154 (Nat.le_of_ble_eq_true rfl) ?_
        refine us_iconstC hR dL_hands_156 (c := 0) (by decide) ?_
        refine us_istore hR dL_hands_157 (Nat.le_of_ble_eq_true rfl) ?_
        exact h13039_L159 _ x0 x1 x2 x3 x4 x5 x6 r23 r24 r25 0 0 _ _ _ _ S28 G28 _ _ h228 ho
      · rw [if_pos c31] at ho
        change R _ _ _ _ 569 39294
        refine us_aload_n hR dL_hands_109 rfl ?_
        refine us_iload hR dL_hands_110 rfl ?_
        refine us_iload hR dL_hands_112 rfl ?_
        have hg := gd_c ho
        rw [gd_e hg] at ho
        have hme := hg
        refine us_callS hR dL_hands_114 (y := 13023) (by decide +kernel) (by decide) (J := i13023) rfl rfl rfl rfl (rest := _) (Nat.le_of_ble_eq_true rfl) (Nat.le_of_ble_eq_true rfl) (Nat.le_of_ble_eq_true rfl) ?_
        obtain ⟨r32, hr32⟩ := bP_ex ho
        replace ho := bP_go ho hr32
        refine sh_13023 h228.1 hme hr32 ?_
        change R _ _ _ _ 566 39276
        refine us_aload hR dL_hands_117 rfl ?_
        refine us_iconstC hR dL_hands_119 (c := 3) (by decide) ?_
        have hg := gd_c ho
        rw [gd_e hg] at ho
        refine ul_iaload h228 hg hR dL_hands_120 ?_
        refine us_icmp_ne hR dL_hands_121 153 (by decide) (fun c33 => ?_) (fun c33 => ?_)
        · rw [if_neg c33] at ho
          change R _ _ _ _ 566 39276
          refine us_iconstC hR dL_hands_153 (c := 0) (by decide) ?_
          refine us_istore hR dL_hands_154 (Nat.le_of_ble_eq_true rfl) ?_
          refine us_iconstC hR dL_hands_156 (c := 0) (by decide) ?_
          refine us_istore hR dL_hands_157 (Nat.le_of_ble_eq_true rfl) ?_
          exact h13039_L159 _ x0 x1 x2 x3 x4 x5 x6 r23 r24 r25 0 0 _ _ _ _ S28 G28 _ _ h228 ho
        · rw [if_pos c33] at ho
          change R _ _ _ _ 566 39276
          refine us_aload_n hR dL_hands_124 rfl ?_
          refine us_iload hR dL_hands_125 rfl ?_
          refine us_iload hR dL_hands_127 rfl ?_
          have hg := gd_c ho
          rw [gd_e hg] at ho
          have hme := hg
          refine us_callS hR dL_hands_129 (y := 13024) (by decide +kernel) (by decide) (J := i13024) rfl rfl rfl rfl (rest := _) (Nat.le_of_ble_eq_true rfl) (Nat.le_of_ble_eq_true rfl) (Nat.le_of_ble_eq_true rfl) ?_
          obtain ⟨r34, hr34⟩ := bP_ex ho
          replace ho := bP_go ho hr34
          refine sh_13024 h228.1 hme hr34 ?_
          change R _ _ _ _ 560 39240
          refine us_bipushC hR dL_hands_132 (c := 100) (by decide) ?_
          refine us_icmp_ne hR dL_hands_134 153 (by decide) (fun c35 => ?_) (fun c35 => ?_)
          · rw [if_neg c35] at ho
            change R _ _ _ _ 560 39240
            refine us_iconstC hR dL_hands_153 (c := 0) (by decide) ?_
            refine us_istore hR dL_hands_154 (Nat.le_of_ble_eq_true rfl) ?_
            refine us_iconstC hR dL_hands_156 (c := 0) (by decide) ?_
            refine us_istore hR dL_hands_157 (Nat.le_of_ble_eq_true rfl) ?_
            exact h13039_L159 _ x0 x1 x2 x3 x4 x5 x6 r23 r24 r25 0 0 _ _ _ _ S28 G28 _ _ h228 ho
          · rw [if_pos c35] at ho
            change R _ _ _ _ 560 39240
            refine us_aload_n hR dL_hands_137 rfl ?_
            refine us_bipushC hR dL_hands_138 (c := 6) (by decide) ?_
            refine us_iconstC hR dL_hands_140 (c := 0) (by decide) ?_
            have hg := gd_c ho
            rw [gd_e hg] at ho
            have hme := hg
            refine us_callS hR dL_hands_141 (y := 13014) (by decide +kernel) (by decide) (J := i13014) rfl rfl rfl rfl (rest := _) (Nat.le_of_ble_eq_true rfl) (Nat.le_of_ble_eq_true rfl) (Nat.le_of_ble_eq_true rfl) ?_
            obtain ⟨q36, hs36⟩ := bO_ex ho
            obtain ⟨T36, r36⟩ := q36
            replace ho := bO_go ho hs36
            refine sh_13014 h228.1 hme hs36 (fun G36 h336 hF36 => ?_)
            have h236 := h228.cls h336 hF36
            obtain ⟨S36, hS36⟩ : ∃ Sz, Sz = lT S28 T36 := ⟨_, rfl⟩
            rw [bS_eq, ← hS36] at ho
            rw [← hS36] at h236
            change R _ _ _ _ 430 30040
            refine us_ldc hR dL_hands_144 (v := (-1000001)) (by decide +kernel) ?_
            refine us_icmp_ne hR dL_hands_146 153 (by decide) (fun c37 => ?_) (fun c37 => ?_)
            · rw [if_neg c37] at ho
              change R _ _ _ _ 430 30040
              refine us_iconstC hR dL_hands_153 (c := 0) (by decide) ?_
              refine us_istore hR dL_hands_154 (Nat.le_of_ble_eq_true rfl) ?_
              refine us_iconstC hR dL_hands_156 (c := 0) (by decide) ?_
              refine us_istore hR dL_hands_157 (Nat.le_of_ble_eq_true rfl) ?_
              exact h13039_L159 _ x0 x1 x2 x3 x4 x5 x6 r23 r24 r25 0 0 _ _ _ _ S36 G36 _ _ h236 ho
            · rw [if_pos c37] at ho
              change R _ _ _ _ 430 30040
              refine us_iconstC hR dL_hands_149 (c := 1) (by decide) ?_
              refine us_goto hR dL_hands_150 154 (by decide) ?_
              refine us_istore hR dL_hands_154 (Nat.le_of_ble_eq_true rfl) ?_
              refine us_iconstC hR dL_hands_156 (c := 0) (by decide) ?_
              refine us_istore hR dL_hands_157 (Nat.le_of_ble_eq_true rfl) ?_
              exact h13039_L159 _ x0 x1 x2 x3 x4 x5 x6 r23 r24 r25 1 0 _ _ _ _ S36 G36 _ _ h236 ho
  · rw [if_pos c26] at ho
    change R _ _ _ _ 570 39300
    refine us_iload hR dL_hands_41 rfl ?_
    refine us_ldc hR dL_hands_43 (v := (-1000003)) (by decide +kernel) ?_
    refine us_icmp_ne hR dL_hands_45 52 (by decide) (fun c38 => ?_) (fun c38 => ?_)
    · rw [if_neg c38] at ho
      change R _ _ _ _ 570 39300
      refine us_iconstC hR dL_hands_52 (c := 0) (by decide) ?_
      refine us_iret hR dL_hands_53 rfl (nar01 (Or.inl rfl)) ?_
      cases ho
      exact h _ (Or.inl rfl) h225
    · rw [if_pos c38] at ho
      change R _ _ _ _ 570 39300
      refine us_iconstC hR dL_hands_48 (c := 1) (by decide) ?_
      refine us_goto hR dL_hands_49 53 (by decide) ?_
      refine us_iret hR dL_hands_53 rfl (nar01 (Or.inr rfl)) ?_
      cases ho
      exact h _ (Or.inr rfl) h225
def l_13040_J414 (l0 : Nat) (l1 : Nat) (l2 : Int32) (l3 : Nat) (l4 : Int32) (l5 : Nat) (l6 : Int32) (l7 : Int32) (l8 : Int32) (l9 : Int32) (l10 : Int32) (l11 : Int32) (l12 : Int32) (l13 : Int32) (l14 : Int32) (bc bs : Nat) (S : Lx) : Option (Lx × Int32) :=
  gd (vi 1 (S.2 l4).length) <|
  gd (tK S.1 l0 = 12) <|
  gd ((18 : Nat) ≤ bc ∧ 108 ≤ bs) <|
  bO (h_13025 l0 (xg (S.2 l4) 1) 0 S.1) fun T1 r1 => bS (lT S T1) fun S1 =>
  if r1 = (-1000001) then
    some (S1, 1)
  else
    some (S1, 0)
def l_13040_J397 (l0 : Nat) (l1 : Nat) (l2 : Int32) (l3 : Nat) (l4 : Int32) (l5 : Nat) (l6 : Int32) (l7 : Int32) (l8 : Int32) (l9 : Int32) (l10 : Int32) (l11 : Int32) (l12 : Int32) (l13 : Int32) (l14 : Int32) (k0 : Int32) (k1 : Int32) (bc bs : Nat) (S : Lx) : Option (Lx × Int32) :=
  if k1 = k0 then
    if l14 = 0 then
      l_13040_J414 l0 l1 l2 l3 l4 l5 l6 l7 l8 l9 l10 l11 l12 l13 l14 bc bs S
    else
      gd (tK S.1 l0 = 12) <|
      gd ((1 : Nat) ≤ bc ∧ 6 ≤ bs) <|
      bP (h_13018 l0 l6 S.1) fun r5 =>
      if r5 = 0 then
        l_13040_J414 l0 l1 l2 l3 l4 l5 l6 l7 l8 l9 l10 l11 l12 l13 l14 (bc - 1) (bs - 6) S
      else
        some (S, 0)
  else
    some (S, 0)
def l_13040_J377 (l0 : Nat) (l1 : Nat) (l2 : Int32) (l3 : Nat) (l4 : Int32) (l5 : Nat) (l6 : Int32) (l7 : Int32) (l8 : Int32) (l9 : Int32) (l10 : Int32) (l11 : Int32) (l12 : Int32) (l13 : Int32) (l14 : Int32) (bc bs : Nat) (S : Lx) : Option (Lx × Int32) :=
  gd (tK S.1 l0 = 12) <|
  gd ((18 : Nat) ≤ bc ∧ 108 ≤ bs) <|
  bO (h_13025 l0 l6 l7 S.1) fun T7 r7 => bS (lT S T7) fun S7 =>
  if l14 = 0 then
    l_13040_J397 l0 l1 l2 l3 l4 l5 l6 l7 l8 l9 l10 l11 l12 l13 l14 (-1000003) r7 (bc - 18) (bs - 108) S7
  else
    l_13040_J397 l0 l1 l2 l3 l4 l5 l6 l7 l8 l9 l10 l11 l12 l13 l14 l11 r7 (bc - 18) (bs - 108) S7
def l_13040_J340 (l0 : Nat) (l1 : Nat) (l2 : Int32) (l3 : Nat) (l4 : Int32) (l5 : Nat) (l6 : Int32) (l7 : Int32) (l8 : Int32) (l9 : Int32) (l10 : Int32) (l11 : Int32) (l12 : Int32) (l13 : Int32) (l14 : Int32) (k0 : Int32) (k1 : Int32) (k2 : Int32) (k3 : Nat) (bc bs : Nat) (S : Lx) : Option (Lx × Int32) :=
  gd (vi k2 (S.2 k3).length) <|
  bS (lSet S k3 k2 (k1 + k0)) fun S9 =>
  if l10 = 0 then
    some (S9, 0)
  else
    if l6 ≤ l12 then
      some (S9, 0)
    else
      if l12 < (-1) then
        some (S9, 0)
      else
        if l13 = 0 then
          l_13040_J377 l0 l1 l2 l3 l4 l5 l6 l7 l8 l9 l10 l11 l12 l13 l14 bc bs S9
        else
          if l12 < 0 then
            some (S9, 0)
          else
            if l7 < l12 then
              some (S9, 0)
            else
              l_13040_J377 l0 l1 l2 l3 l4 l5 l6 l7 l8 l9 l10 l11 l12 l13 l14 bc bs S9
def l_13040_J322 (l0 : Nat) (l1 : Nat) (l2 : Int32) (l3 : Nat) (l4 : Int32) (l5 : Nat) (l6 : Int32) (l7 : Int32) (l8 : Int32) (l9 : Int32) (l10 : Int32) (l11 : Int32) (l12 : Int32) (l13 : Int32) (k0 : Int32) (bc bs : Nat) (S : Lx) : Option (Lx × Int32) :=
  gd (vi l6 (S.2 l3).length) <|
  if k0 = 0 then
    l_13040_J340 l0 l1 l2 l3 l4 l5 l6 l7 l8 l9 l10 l11 l12 l13 k0 0 (xg (S.2 l3) l6) l6 l3 bc bs S
  else
    l_13040_J340 l0 l1 l2 l3 l4 l5 l6 l7 l8 l9 l10 l11 l12 l13 k0 65536 (xg (S.2 l3) l6) l6 l3 bc bs S
def l_13040_J321 (l0 : Nat) (l1 : Nat) (l2 : Int32) (l3 : Nat) (l4 : Int32) (l5 : Nat) (l6 : Int32) (l7 : Int32) (l8 : Int32) (l9 : Int32) (l10 : Int32) (l11 : Int32) (l12 : Int32) (l13 : Int32) (bc bs : Nat) (S : Lx) : Option (Lx × Int32) :=
  l_13040_J322 l0 l1 l2 l3 l4 l5 l6 l7 l8 l9 l10 l11 l12 l13 0 bc bs S
def l_13040_J301 (l0 : Nat) (l1 : Nat) (l2 : Int32) (l3 : Nat) (l4 : Int32) (l5 : Nat) (l6 : Int32) (l7 : Int32) (l8 : Int32) (l9 : Int32) (l10 : Int32) (l11 : Int32) (l12 : Int32) (k0 : Int32) (bc bs : Nat) (S : Lx) : Option (Lx × Int32) :=
  if k0 = 0 then
    l_13040_J321 l0 l1 l2 l3 l4 l5 l6 l7 l8 l9 l10 l11 l12 k0 bc bs S
  else
    gd (vi l6 (S.2 l3).length) <|
    if 65536 ≤ (xg (S.2 l3) l6) then
      l_13040_J321 l0 l1 l2 l3 l4 l5 l6 l7 l8 l9 l10 l11 l12 k0 bc bs S
    else
      l_13040_J322 l0 l1 l2 l3 l4 l5 l6 l7 l8 l9 l10 l11 l12 k0 1 bc bs S
def l_13040_J300 (l0 : Nat) (l1 : Nat) (l2 : Int32) (l3 : Nat) (l4 : Int32) (l5 : Nat) (l6 : Int32) (l7 : Int32) (l8 : Int32) (l9 : Int32) (l10 : Int32) (l11 : Int32) (l12 : Int32) (bc bs : Nat) (S : Lx) : Option (Lx × Int32) :=
  l_13040_J301 l0 l1 l2 l3 l4 l5 l6 l7 l8 l9 l10 l11 l12 0 bc bs S
def l_13040_J224 (l0 : Nat) (l1 : Nat) (l2 : Int32) (l3 : Nat) (l4 : Int32) (l5 : Nat) (l6 : Int32) (l7 : Int32) (l8 : Int32) (l9 : Int32) (l10 : Int32) (l11 : Int32) (bc bs : Nat) (S : Lx) : Option (Lx × Int32) :=
  gd (tK S.1 l0 = 12) <|
  gd ((360 : Nat) ≤ bc ∧ 2200 ≤ bs) <|
  bP (h_13027 l0 l6 S.1) fun r19 =>
  if l6 ≤ l7 then
    l_13040_J300 l0 l1 l2 l3 l4 l5 l6 l7 l8 l9 l10 l11 r19 (bc - 360) (bs - 2200) S
  else
    gd (vi l6 (S.2 l3).length) <|
    gd (¬ (8 : Int32) = 0) <|
    gd (vi l7 (S.2 l3).length) <|
    gd (¬ (8 : Int32) = 0) <|
    if ((xg (S.2 l3) l6) % 8) = ((xg (S.2 l3) l7) % 8) then
      l_13040_J300 l0 l1 l2 l3 l4 l5 l6 l7 l8 l9 l10 l11 r19 (bc - 360) (bs - 2200) S
    else
      gd (vi l6 (S.2 l3).length) <|
      gd (¬ (8 : Int32) = 0) <|
      gd (¬ (4 : Int32) = 0) <|
      gd (vi l7 (S.2 l3).length) <|
      gd (¬ (8 : Int32) = 0) <|
      gd (¬ (4 : Int32) = 0) <|
      if (((xg (S.2 l3) l6) / 8) % 4) = (((xg (S.2 l3) l7) / 8) % 4) then
        if l8 ≤ 2 then
          l_13040_J300 l0 l1 l2 l3 l4 l5 l6 l7 l8 l9 l10 l11 r19 (bc - 360) (bs - 2200) S
        else
          gd (tK S.1 l0 = 12) <|
          gd ((6 : Nat) ≤ (bc - 360) ∧ 36 ≤ (bs - 2200)) <|
          bP (h_13024 l0 l6 l7 S.1) fun r24 =>
          if r24 ≤ 79 then
            l_13040_J300 l0 l1 l2 l3 l4 l5 l6 l7 l8 l9 l10 l11 r19 ((bc - 360) - 6) ((bs - 2200) - 36) S
          else
            l_13040_J301 l0 l1 l2 l3 l4 l5 l6 l7 l8 l9 l10 l11 r19 1 ((bc - 360) - 6) ((bs - 2200) - 36) S
      else
        l_13040_J300 l0 l1 l2 l3 l4 l5 l6 l7 l8 l9 l10 l11 r19 (bc - 360) (bs - 2200) S
def l_13040_J139 (l0 : Nat) (l1 : Nat) (l2 : Int32) (l3 : Nat) (l4 : Int32) (l5 : Nat) (l6 : Int32) (l7 : Int32) (l8 : Int32) (l9 : Int32) (k0 : Int32) (bc bs : Nat) (S : Lx) : Option (Lx × Int32) :=
  gd ((18 : Nat) ≤ bc ∧ 108 ≤ bs) <|
  bP (l_13037 l0 l1 l2 l3 l6 0 S) fun r26 =>
  gd (vi l6 (S.2 l3).length) <|
  if (xg (S.2 l3) l6) ≤ 65535 then
    l_13040_J224 l0 l1 l2 l3 l4 l5 l6 l7 l8 l9 k0 r26 (bc - 18) (bs - 108) S
  else
    bP (h_13001 (l5 >>> (10 &&& 31)) 2 S.1) fun r28 =>
    if r28 = 0 then
      gd (vi l6 (S.2 l3).length) <|
      gd (vi l6 (S.2 l3).length) <|
      bS (lSet S l3 l6 ((xg (S.2 l3) l6) - 65536)) fun S30 =>
      if k0 = 0 then
        some (S30, 0)
      else
        gd (tK S30.1 l0 = 12) <|
        gd ((2 : Nat) ≤ (bc - 18) ∧ 12 ≤ (bs - 108)) <|
        bO (h_13026 l0 l6 S30.1) fun T32 r32 => bS (lT S30 T32) fun S32 =>
        gd ((18 : Nat) ≤ ((bc - 18) - 2) ∧ 108 ≤ ((bs - 108) - 12)) <|
        bP (l_13037 l0 l1 l2 l3 l6 0 S32) fun r33 =>
        if r32 = r33 then
          gd (tK S32.1 l0 = 12) <|
          gd ((2 : Nat) ≤ (((bc - 18) - 2) - 18) ∧ 12 ≤ (((bs - 108) - 12) - 108)) <|
          bO (h_13026 l0 l6 S32.1) fun T35 r35 => bS (lT S32 T35) fun S35 =>
          if r35 = (-1000003) then
            some (S35, 1)
          else
            some (S35, 0)
        else
          some (S32, 0)
    else
      l_13040_J224 l0 l1 l2 l3 l4 l5 l6 l7 l8 l9 k0 r26 (bc - 18) (bs - 108) S
def l_13040_J138 (l0 : Nat) (l1 : Nat) (l2 : Int32) (l3 : Nat) (l4 : Int32) (l5 : Nat) (l6 : Int32) (l7 : Int32) (l8 : Int32) (l9 : Int32) (bc bs : Nat) (S : Lx) : Option (Lx × Int32) :=
  l_13040_J139 l0 l1 l2 l3 l4 l5 l6 l7 l8 l9 0 bc bs S
def l_13040_J97 (l0 : Nat) (l1 : Nat) (l2 : Int32) (l3 : Nat) (l4 : Int32) (l5 : Nat) (l6 : Int32) (l7 : Int32) (l8 : Int32) (l9 : Int32) (k0 : Int32) (k1 : Int32) (bc bs : Nat) (S : Lx) : Option (Lx × Int32) :=
  if k1 = k0 then
    gd (tK S.1 l0 = 12) <|
    gd ((6 : Nat) ≤ bc ∧ 36 ≤ bs) <|
    bP (h_13024 l0 l6 l7 S.1) fun r38 =>
    gd (tK S.1 l0 = 12) <|
    gd ((6 : Nat) ≤ (bc - 6) ∧ 36 ≤ (bs - 36)) <|
    bP (h_13024 l0 l7 l6 S.1) fun r39 =>
    if r38 = r39 then
      gd (vi 1 (S.2 l4).length) <|
      gd (tK S.1 l0 = 12) <|
      gd ((3 : Nat) ≤ ((bc - 6) - 6) ∧ 18 ≤ ((bs - 36) - 36)) <|
      bP (h_13023 l0 l6 (xg (S.2 l4) 1) S.1) fun r41 =>
      if r41 = (-1000001) then
        l_13040_J139 l0 l1 l2 l3 l4 l5 l6 l7 l8 l9 1 (((bc - 6) - 6) - 3) (((bs - 36) - 36) - 18) S
      else
        l_13040_J138 l0 l1 l2 l3 l4 l5 l6 l7 l8 l9 (((bc - 6) - 6) - 3) (((bs - 36) - 36) - 18) S
    else
      l_13040_J138 l0 l1 l2 l3 l4 l5 l6 l7 l8 l9 ((bc - 6) - 6) ((bs - 36) - 36) S
  else
    l_13040_J138 l0 l1 l2 l3 l4 l5 l6 l7 l8 l9 bc bs S
def l_13040 (x0 : Nat) (x1 : Nat) (x2 : Int32) (x3 : Nat) (x4 : Int32) (x5 : Nat) (x6 : Int32) (x7 : Nat) (x8 : Int32) (x9 : Int32) (S : Lx) : Option (Lx × Int32) :=
  gd (vi 1 (S.2 x4).length) <|
  bP (h_13001 x5 (xg (S.2 x4) 1) S.1) fun r43 =>
  gd (vi 1 (S.2 x4).length) <|
  bP (h_13001 (x5 >>> (5 &&& 31)) (xg (S.2 x4) 1) S.1) fun r44 =>
  gd (tK S.1 x0 = 12) <|
  bP (h_13023 x0 r43 r44 S.1) fun r45 =>
  gd (tK S.1 x0 = 12) <|
  bP (h_13022 x0 r43 S.1) fun r46 =>
  gd (tK S.1 x0 = 12) <|
  bP (h_13022 x0 r44 S.1) fun r47 =>
  gd (tK S.1 x0 = 12) <|
  bP (h_13023 x0 r44 r43 S.1) fun r48 =>
  if r45 = r48 then
    if (r46 + r47) < (2 * r45) then
      l_13040_J138 x0 x1 x2 x3 x4 x5 r43 r44 r45 (r46 + r47) 512 3152 S
    else
      gd (tK S.1 x0 = 12) <|
      bP (h_13024 x0 r43 r44 S.1) fun r51 =>
      if (r46 + r47) = 0 then
        l_13040_J97 x0 x1 x2 x3 x4 x5 r43 r44 r45 (r46 + r47) 0 r51 506 3116 S
      else
        gd (¬ ((r46 + r47) : Int32) = 0) <|
        l_13040_J97 x0 x1 x2 x3 x4 x5 r43 r44 r45 (r46 + r47) ((200 * r45) / (r46 + r47)) r51 506 3116 S
  else
    l_13040_J138 x0 x1 x2 x3 x4 x5 r43 r44 r45 (r46 + r47) 512 3152 S
set_option maxRecDepth 8000 in
theorem sl_13040 {d : Nat} {G : ab_G} {S : Lx} {P : ab_Pq} {X : ab_Xq} (h2 : LRep G S) {x0 : Nat} {x1 : Nat} {x2 : Int32} {x3 : Nat} {x4 : Int32} {x5 : Nat} {x6 : Int32} {x7 : Nat} {x8 : Int32} {x9 : Int32} {o : Lx × Int32} (ho : l_13040 x0 x1 x2 x3 x4 x5 x6 x7 x8 x9 S = some o) (h : ∀ G1, (o.2 = 0 ∨ o.2 = 1) → LRep G1 o.1 → P G1 (some (.int o.2))) : ab_Gam (d + 48) 13040 [.ref x0, .ref x1, .int x2, .ref x3, .int x4, .ref x5, .int x6, .ref x7, .int x8, .int x9] G P X := by
  unfold l_13040 at ho
  refine ab_enter (I := i13040) rfl (Nat.le_of_ble_eq_true rfl) (fun R hR => ?_)
  have h13040_J414 : ∀ (l0 : Nat) (l1 : Nat) (l2 : Int32) (l3 : Nat) (l4 : Int32) (l5 : Nat) (l6 : Int32) (l7 : Int32) (l8 : Int32) (l9 : Int32) (l10 : Int32) (l11 : Int32) (l12 : Int32) (l13 : Int32) (l14 : Int32)  (S : Lx) (Ga : ab_G) (bc bs : Nat) (h2 : LRep Ga S) (ho : l_13040_J414 l0 l1 l2 l3 l4 l5 l6 l7 l8 l9 l10 l11 l12 l13 l14 bc bs S = some o), R 414 [some (.ref l0), some (.ref l1), some (.int l2), some (.ref l3), some (.int l4), some (.ref l5), some (.int l6), some (.int l7), some (.int l8), some (.int l9), some (.int l10), some (.int l11), some (.int l12), some (.int l13), some (.int l14)] [] Ga bc bs := by
    intro l0 l1 l2 l3 l4 l5 l6 l7 l8 l9 l10 l11 l12 l13 l14  S Ga bc bs h2 ho
    unfold l_13040_J414 at ho
    refine us_aload_n hR dL_accuses_414 rfl ?_
    refine us_aload hR dL_accuses_415 rfl ?_
    refine us_iconstC hR dL_accuses_417 (c := 1) (by decide) ?_
    have hg := gd_c ho
    rw [gd_e hg] at ho
    refine ul_iaload h2 hg hR dL_accuses_418 ?_
    refine us_iconstC hR dL_accuses_419 (c := 0) (by decide) ?_
    have hg := gd_c ho
    rw [gd_e hg] at ho
    have hme := hg
    have hb := gd_c ho
    rw [gd_e hb] at ho
    refine us_callS hR dL_accuses_420 (y := 13025) (by decide +kernel) (by decide) (J := i13025) rfl rfl rfl rfl (rest := _) (Nat.le_of_ble_eq_true rfl) hb.1 hb.2 ?_
    obtain ⟨q1, hs1⟩ := bO_ex ho
    obtain ⟨T1, r1⟩ := q1
    replace ho := bO_go ho hs1
    refine sh_13025 h2.1 hme hs1 (fun G1 h31 hF1 => ?_)
    have h21 := h2.cls h31 hF1
    obtain ⟨S1, hS1⟩ : ∃ Sz, Sz = lT S T1 := ⟨_, rfl⟩
    rw [bS_eq, ← hS1] at ho
    rw [← hS1] at h21
    refine us_ldc hR dL_accuses_423 (v := (-1000001)) (by decide +kernel) ?_
    refine us_icmp_ne hR dL_accuses_425 432 (by decide) (fun c2 => ?_) (fun c2 => ?_)
    · rw [if_neg c2] at ho
      refine us_iconstC hR dL_accuses_432 (c := 0) (by decide) ?_
      refine us_iret hR dL_accuses_433 rfl (nar01 (Or.inl rfl)) ?_
      cases ho
      exact h _ (Or.inl rfl) h21
    · rw [if_pos c2] at ho
      refine us_iconstC hR dL_accuses_428 (c := 1) (by decide) ?_
      refine us_goto hR dL_accuses_429 433 (by decide) ?_
      refine us_iret hR dL_accuses_433 rfl (nar01 (Or.inr rfl)) ?_
      cases ho
      exact h _ (Or.inr rfl) h21
  have h13040_J397 : ∀ (l0 : Nat) (l1 : Nat) (l2 : Int32) (l3 : Nat) (l4 : Int32) (l5 : Nat) (l6 : Int32) (l7 : Int32) (l8 : Int32) (l9 : Int32) (l10 : Int32) (l11 : Int32) (l12 : Int32) (l13 : Int32) (l14 : Int32) (k0 : Int32) (k1 : Int32)  (S : Lx) (Ga : ab_G) (bc bs : Nat) (h2 : LRep Ga S) (ho : l_13040_J397 l0 l1 l2 l3 l4 l5 l6 l7 l8 l9 l10 l11 l12 l13 l14 k0 k1 bc bs S = some o), R 397 [some (.ref l0), some (.ref l1), some (.int l2), some (.ref l3), some (.int l4), some (.ref l5), some (.int l6), some (.int l7), some (.int l8), some (.int l9), some (.int l10), some (.int l11), some (.int l12), some (.int l13), some (.int l14)] [.int k0, .int k1] Ga bc bs := by
    intro l0 l1 l2 l3 l4 l5 l6 l7 l8 l9 l10 l11 l12 l13 l14 k0 k1  S Ga bc bs h2 ho
    unfold l_13040_J397 at ho
    refine us_icmp_ne hR dL_accuses_397 432 (by decide) (fun c3 => ?_) (fun c3 => ?_)
    · rw [if_neg c3] at ho
      refine us_iconstC hR dL_accuses_432 (c := 0) (by decide) ?_
      refine us_iret hR dL_accuses_433 rfl (nar01 (Or.inl rfl)) ?_
      cases ho
      exact h _ (Or.inl rfl) h2
    · rw [if_pos c3] at ho
      refine us_iload hR dL_accuses_400 rfl ?_
      refine us_if_eq hR dL_accuses_402 414 (by decide) (fun c4 => ?_) (fun c4 => ?_)
      · rw [if_pos c4] at ho
        exact h13040_J414 l0 l1 l2 l3 l4 l5 l6 l7 l8 l9 l10 l11 l12 l13 l14  S Ga _ _ h2 ho
      · rw [if_neg c4] at ho
        refine us_aload_n hR dL_accuses_405 rfl ?_
        refine us_iload hR dL_accuses_406 rfl ?_
        have hg := gd_c ho
        rw [gd_e hg] at ho
        have hme := hg
        have hb := gd_c ho
        rw [gd_e hb] at ho
        refine us_callS hR dL_accuses_408 (y := 13018) (by decide +kernel) (by decide) (J := i13018) rfl rfl rfl rfl (rest := _) (Nat.le_of_ble_eq_true rfl) hb.1 hb.2 ?_
        obtain ⟨r5, hr5⟩ := bP_ex ho
        replace ho := bP_go ho hr5
        refine sh_13018 h2.1 hme hr5 ?_
        refine us_if_ne hR dL_accuses_411 432 (by decide) (fun c6 => ?_) (fun c6 => ?_)
        · rw [if_neg c6] at ho
          refine us_iconstC hR dL_accuses_432 (c := 0) (by decide) ?_
          refine us_iret hR dL_accuses_433 rfl (nar01 (Or.inl rfl)) ?_
          cases ho
          exact h _ (Or.inl rfl) h2
        · rw [if_pos c6] at ho
          exact h13040_J414 l0 l1 l2 l3 l4 l5 l6 l7 l8 l9 l10 l11 l12 l13 l14  S Ga _ _ h2 ho
  have h13040_J377 : ∀ (l0 : Nat) (l1 : Nat) (l2 : Int32) (l3 : Nat) (l4 : Int32) (l5 : Nat) (l6 : Int32) (l7 : Int32) (l8 : Int32) (l9 : Int32) (l10 : Int32) (l11 : Int32) (l12 : Int32) (l13 : Int32) (l14 : Int32)  (S : Lx) (Ga : ab_G) (bc bs : Nat) (h2 : LRep Ga S) (ho : l_13040_J377 l0 l1 l2 l3 l4 l5 l6 l7 l8 l9 l10 l11 l12 l13 l14 bc bs S = some o), R 377 [some (.ref l0), some (.ref l1), some (.int l2), some (.ref l3), some (.int l4), some (.ref l5), some (.int l6), some (.int l7), some (.int l8), some (.int l9), some (.int l10), some (.int l11), some (.int l12), some (.int l13), some (.int l14)] [] Ga bc bs := by
    intro l0 l1 l2 l3 l4 l5 l6 l7 l8 l9 l10 l11 l12 l13 l14  S Ga bc bs h2 ho
    unfold l_13040_J377 at ho
    refine us_aload_n hR dL_accuses_377 rfl ?_
    refine us_iload hR dL_accuses_378 rfl ?_
    refine us_iload hR dL_accuses_380 rfl ?_
    have hg := gd_c ho
    rw [gd_e hg] at ho
    have hme := hg
    have hb := gd_c ho
    rw [gd_e hb] at ho
    refine us_callS hR dL_accuses_382 (y := 13025) (by decide +kernel) (by decide) (J := i13025) rfl rfl rfl rfl (rest := _) (Nat.le_of_ble_eq_true rfl) hb.1 hb.2 ?_
    obtain ⟨q7, hs7⟩ := bO_ex ho
    obtain ⟨T7, r7⟩ := q7
    replace ho := bO_go ho hs7
    refine sh_13025 h2.1 hme hs7 (fun G7 h37 hF7 => ?_)
    have h27 := h2.cls h37 hF7
    obtain ⟨S7, hS7⟩ : ∃ Sz, Sz = lT S T7 := ⟨_, rfl⟩
    rw [bS_eq, ← hS7] at ho
    rw [← hS7] at h27
    refine us_iload hR dL_accuses_385 rfl ?_
    refine us_if_eq hR dL_accuses_387 395 (by decide) (fun c8 => ?_) (fun c8 => ?_)
    · rw [if_pos c8] at ho
      refine us_ldc hR dL_accuses_395 (v := (-1000003)) (by decide +kernel) ?_
      exact h13040_J397 l0 l1 l2 l3 l4 l5 l6 l7 l8 l9 l10 l11 l12 l13 l14 (-1000003) r7  S7 G7 _ _ h27 ho
    · rw [if_neg c8] at ho
      refine us_iload hR dL_accuses_390 rfl ?_
      refine us_goto hR dL_accuses_392 397 (by decide) ?_
      exact h13040_J397 l0 l1 l2 l3 l4 l5 l6 l7 l8 l9 l10 l11 l12 l13 l14 l11 r7  S7 G7 _ _ h27 ho
  have h13040_J340 : ∀ (l0 : Nat) (l1 : Nat) (l2 : Int32) (l3 : Nat) (l4 : Int32) (l5 : Nat) (l6 : Int32) (l7 : Int32) (l8 : Int32) (l9 : Int32) (l10 : Int32) (l11 : Int32) (l12 : Int32) (l13 : Int32) (l14 : Int32) (k0 : Int32) (k1 : Int32) (k2 : Int32) (k3 : Nat)  (S : Lx) (Ga : ab_G) (bc bs : Nat) (h2 : LRep Ga S) (ho : l_13040_J340 l0 l1 l2 l3 l4 l5 l6 l7 l8 l9 l10 l11 l12 l13 l14 k0 k1 k2 k3 bc bs S = some o), R 340 [some (.ref l0), some (.ref l1), some (.int l2), some (.ref l3), some (.int l4), some (.ref l5), some (.int l6), some (.int l7), some (.int l8), some (.int l9), some (.int l10), some (.int l11), some (.int l12), some (.int l13), some (.int l14)] [.int k0, .int k1, .int k2, .ref k3] Ga bc bs := by
    intro l0 l1 l2 l3 l4 l5 l6 l7 l8 l9 l10 l11 l12 l13 l14 k0 k1 k2 k3  S Ga bc bs h2 ho
    unfold l_13040_J340 at ho
    refine us_iadd hR dL_accuses_340 ?_
    have hg := gd_c ho
    rw [gd_e hg] at ho
    refine ul_iastore h2 hg hR dL_accuses_341 (fun G9 S9 hs9 h29 => ?_)
    rw [← hs9, bS_eq] at ho
    refine us_iload hR dL_accuses_342 rfl ?_
    refine us_if_eq hR dL_accuses_344 432 (by decide) (fun c10 => ?_) (fun c10 => ?_)
    · rw [if_pos c10] at ho
      refine us_iconstC hR dL_accuses_432 (c := 0) (by decide) ?_
      refine us_iret hR dL_accuses_433 rfl (nar01 (Or.inl rfl)) ?_
      cases ho
      exact h _ (Or.inl rfl) h29
    · rw [if_neg c10] at ho
      refine us_iload hR dL_accuses_347 rfl ?_
      refine us_iload hR dL_accuses_349 rfl ?_
      refine us_icmp_ge hR dL_accuses_351 432 (by decide) (fun c11 => ?_) (fun c11 => ?_)
      · rw [if_pos c11] at ho
        refine us_iconstC hR dL_accuses_432 (c := 0) (by decide) ?_
        refine us_iret hR dL_accuses_433 rfl (nar01 (Or.inl rfl)) ?_
        cases ho
        exact h _ (Or.inl rfl) h29
      · rw [if_neg c11] at ho
        refine us_iload hR dL_accuses_354 rfl ?_
        refine us_iconstC hR dL_accuses_356 (c := (-1)) (by decide) ?_
        refine us_icmp_lt hR dL_accuses_357 432 (by decide) (fun c12 => ?_) (fun c12 => ?_)
        · rw [if_pos c12] at ho
          refine us_iconstC hR dL_accuses_432 (c := 0) (by decide) ?_
          refine us_iret hR dL_accuses_433 rfl (nar01 (Or.inl rfl)) ?_
          cases ho
          exact h _ (Or.inl rfl) h29
        · rw [if_neg c12] at ho
          refine us_iload hR dL_accuses_360 rfl ?_
          refine us_if_eq hR dL_accuses_362 377 (by decide) (fun c13 => ?_) (fun c13 => ?_)
          · rw [if_pos c13] at ho
            exact h13040_J377 l0 l1 l2 l3 l4 l5 l6 l7 l8 l9 l10 l11 l12 l13 l14  S9 G9 _ _ h29 ho
          · rw [if_neg c13] at ho
            refine us_iload hR dL_accuses_365 rfl ?_
            refine us_if_lt hR dL_accuses_367 432 (by decide) (fun c14 => ?_) (fun c14 => ?_)
            · rw [if_pos c14] at ho
              refine us_iconstC hR dL_accuses_432 (c := 0) (by decide) ?_
              refine us_iret hR dL_accuses_433 rfl (nar01 (Or.inl rfl)) ?_
              cases ho
              exact h _ (Or.inl rfl) h29
            · rw [if_neg c14] at ho
              refine us_iload hR dL_accuses_370 rfl ?_
              refine us_iload hR dL_accuses_372 rfl ?_
              refine us_icmp_gt hR dL_accuses_374 432 (by decide) (fun c15 => ?_) (fun c15 => ?_)
              · rw [if_pos c15] at ho
                refine us_iconstC hR dL_accuses_432 (c := 0) (by decide) ?_
                refine us_iret hR dL_accuses_433 rfl (nar01 (Or.inl rfl)) ?_
                cases ho
                exact h _ (Or.inl rfl) h29
              · rw [if_neg c15] at ho
                exact h13040_J377 l0 l1 l2 l3 l4 l5 l6 l7 l8 l9 l10 l11 l12 l13 l14  S9 G9 _ _ h29 ho
  have h13040_J322 : ∀ (l0 : Nat) (l1 : Nat) (l2 : Int32) (l3 : Nat) (l4 : Int32) (l5 : Nat) (l6 : Int32) (l7 : Int32) (l8 : Int32) (l9 : Int32) (l10 : Int32) (l11 : Int32) (l12 : Int32) (l13 : Int32) (k0 : Int32)  (S : Lx) (Ga : ab_G) (bc bs : Nat) (h2 : LRep Ga S) (ho : l_13040_J322 l0 l1 l2 l3 l4 l5 l6 l7 l8 l9 l10 l11 l12 l13 k0 bc bs S = some o), R 322 [some (.ref l0), some (.ref l1), some (.int l2), some (.ref l3), some (.int l4), some (.ref l5), some (.int l6), some (.int l7), some (.int l8), some (.int l9), some (.int l10), some (.int l11), some (.int l12), some (.int l13), none] [.int k0] Ga bc bs := by
    intro l0 l1 l2 l3 l4 l5 l6 l7 l8 l9 l10 l11 l12 l13 k0  S Ga bc bs h2 ho
    unfold l_13040_J322 at ho
    refine us_istore hR dL_accuses_322 (Nat.le_of_ble_eq_true rfl) ?_
    refine us_aload_n hR dL_accuses_324 rfl ?_
    refine us_iload hR dL_accuses_325 rfl ?_
    refine us_dup2 hR dL_accuses_327 rfl rfl ?_
    have hg := gd_c ho
    rw [gd_e hg] at ho
    refine ul_iaload h2 hg hR dL_accuses_328 ?_
    refine us_iload hR dL_accuses_329 rfl ?_
    refine us_if_eq hR dL_accuses_331 339 (by decide) (fun c16 => ?_) (fun c16 => ?_)
    · rw [if_pos c16] at ho
      refine us_iconstC hR dL_accuses_339 (c := 0) (by decide) ?_
      exact h13040_J340 l0 l1 l2 l3 l4 l5 l6 l7 l8 l9 l10 l11 l12 l13 k0 0 (xg (S.2 l3) l6) l6 l3  S Ga _ _ h2 ho
    · rw [if_neg c16] at ho
      refine us_ldc hR dL_accuses_334 (v := 65536) (by decide +kernel) ?_
      refine us_goto hR dL_accuses_336 340 (by decide) ?_
      exact h13040_J340 l0 l1 l2 l3 l4 l5 l6 l7 l8 l9 l10 l11 l12 l13 k0 65536 (xg (S.2 l3) l6) l6 l3  S Ga _ _ h2 ho
  have h13040_J321 : ∀ (l0 : Nat) (l1 : Nat) (l2 : Int32) (l3 : Nat) (l4 : Int32) (l5 : Nat) (l6 : Int32) (l7 : Int32) (l8 : Int32) (l9 : Int32) (l10 : Int32) (l11 : Int32) (l12 : Int32) (l13 : Int32)  (S : Lx) (Ga : ab_G) (bc bs : Nat) (h2 : LRep Ga S) (ho : l_13040_J321 l0 l1 l2 l3 l4 l5 l6 l7 l8 l9 l10 l11 l12 l13 bc bs S = some o), R 321 [some (.ref l0), some (.ref l1), some (.int l2), some (.ref l3), some (.int l4), some (.ref l5), some (.int l6), some (.int l7), some (.int l8), some (.int l9), some (.int l10), some (.int l11), some (.int l12), some (.int l13), none] [] Ga bc bs := by
    intro l0 l1 l2 l3 l4 l5 l6 l7 l8 l9 l10 l11 l12 l13  S Ga bc bs h2 ho
    unfold l_13040_J321 at ho
    refine us_iconstC hR dL_accuses_321 (c := 0) (by decide) ?_
    exact h13040_J322 l0 l1 l2 l3 l4 l5 l6 l7 l8 l9 l10 l11 l12 l13 0  S Ga _ _ h2 ho
  have h13040_J301 : ∀ (l0 : Nat) (l1 : Nat) (l2 : Int32) (l3 : Nat) (l4 : Int32) (l5 : Nat) (l6 : Int32) (l7 : Int32) (l8 : Int32) (l9 : Int32) (l10 : Int32) (l11 : Int32) (l12 : Int32) (k0 : Int32)  (S : Lx) (Ga : ab_G) (bc bs : Nat) (h2 : LRep Ga S) (ho : l_13040_J301 l0 l1 l2 l3 l4 l5 l6 l7 l8 l9 l10 l11 l12 k0 bc bs S = some o), R 301 [some (.ref l0), some (.ref l1), some (.int l2), some (.ref l3), some (.int l4), some (.ref l5), some (.int l6), some (.int l7), some (.int l8), some (.int l9), some (.int l10), some (.int l11), some (.int l12), none, none] [.int k0] Ga bc bs := by
    intro l0 l1 l2 l3 l4 l5 l6 l7 l8 l9 l10 l11 l12 k0  S Ga bc bs h2 ho
    unfold l_13040_J301 at ho
    refine us_istore hR dL_accuses_301 (Nat.le_of_ble_eq_true rfl) ?_
    refine us_iload hR dL_accuses_303 rfl ?_
    refine us_if_eq hR dL_accuses_305 321 (by decide) (fun c17 => ?_) (fun c17 => ?_)
    · rw [if_pos c17] at ho
      exact h13040_J321 l0 l1 l2 l3 l4 l5 l6 l7 l8 l9 l10 l11 l12 k0  S Ga _ _ h2 ho
    · rw [if_neg c17] at ho
      refine us_aload_n hR dL_accuses_308 rfl ?_
      refine us_iload hR dL_accuses_309 rfl ?_
      have hg := gd_c ho
      rw [gd_e hg] at ho
      refine ul_iaload h2 hg hR dL_accuses_311 ?_
      refine us_ldc hR dL_accuses_312 (v := 65536) (by decide +kernel) ?_
      refine us_icmp_ge hR dL_accuses_314 321 (by decide) (fun c18 => ?_) (fun c18 => ?_)
      · rw [if_pos c18] at ho
        exact h13040_J321 l0 l1 l2 l3 l4 l5 l6 l7 l8 l9 l10 l11 l12 k0  S Ga _ _ h2 ho
      · rw [if_neg c18] at ho
        refine us_iconstC hR dL_accuses_317 (c := 1) (by decide) ?_
        refine us_goto hR dL_accuses_318 322 (by decide) ?_
        exact h13040_J322 l0 l1 l2 l3 l4 l5 l6 l7 l8 l9 l10 l11 l12 k0 1  S Ga _ _ h2 ho
  have h13040_J300 : ∀ (l0 : Nat) (l1 : Nat) (l2 : Int32) (l3 : Nat) (l4 : Int32) (l5 : Nat) (l6 : Int32) (l7 : Int32) (l8 : Int32) (l9 : Int32) (l10 : Int32) (l11 : Int32) (l12 : Int32)  (S : Lx) (Ga : ab_G) (bc bs : Nat) (h2 : LRep Ga S) (ho : l_13040_J300 l0 l1 l2 l3 l4 l5 l6 l7 l8 l9 l10 l11 l12 bc bs S = some o), R 300 [some (.ref l0), some (.ref l1), some (.int l2), some (.ref l3), some (.int l4), some (.ref l5), some (.int l6), some (.int l7), some (.int l8), some (.int l9), some (.int l10), some (.int l11), some (.int l12), none, none] [] Ga bc bs := by
    intro l0 l1 l2 l3 l4 l5 l6 l7 l8 l9 l10 l11 l12  S Ga bc bs h2 ho
    unfold l_13040_J300 at ho
    refine us_iconstC hR dL_accuses_300 (c := 0) (by decide) ?_
    exact h13040_J301 l0 l1 l2 l3 l4 l5 l6 l7 l8 l9 l10 l11 l12 0  S Ga _ _ h2 ho
  have h13040_J224 : ∀ (l0 : Nat) (l1 : Nat) (l2 : Int32) (l3 : Nat) (l4 : Int32) (l5 : Nat) (l6 : Int32) (l7 : Int32) (l8 : Int32) (l9 : Int32) (l10 : Int32) (l11 : Int32)  (S : Lx) (Ga : ab_G) (bc bs : Nat) (h2 : LRep Ga S) (ho : l_13040_J224 l0 l1 l2 l3 l4 l5 l6 l7 l8 l9 l10 l11 bc bs S = some o), R 224 [some (.ref l0), some (.ref l1), some (.int l2), some (.ref l3), some (.int l4), some (.ref l5), some (.int l6), some (.int l7), some (.int l8), some (.int l9), some (.int l10), some (.int l11), none, none, none] [] Ga bc bs := by
    intro l0 l1 l2 l3 l4 l5 l6 l7 l8 l9 l10 l11  S Ga bc bs h2 ho
    unfold l_13040_J224 at ho
    refine us_aload_n hR dL_accuses_224 rfl ?_
    refine us_iload hR dL_accuses_225 rfl ?_
    have hg := gd_c ho
    rw [gd_e hg] at ho
    have hme := hg
    have hb := gd_c ho
    rw [gd_e hb] at ho
    refine us_callS hR dL_accuses_227 (y := 13027) (by decide +kernel) (by decide) (J := i13027) rfl rfl rfl rfl (rest := _) (Nat.le_of_ble_eq_true rfl) hb.1 hb.2 ?_
    obtain ⟨r19, hr19⟩ := bP_ex ho
    replace ho := bP_go ho hr19
    refine sh_13027 h2.1 hme hr19 ?_
    refine us_istore hR dL_accuses_230 (Nat.le_of_ble_eq_true rfl) ?_
    refine us_iload hR dL_accuses_232 rfl ?_
    refine us_iload hR dL_accuses_234 rfl ?_
    refine us_icmp_ge hR dL_accuses_236 300 (by decide) (fun c20 => ?_) (fun c20 => ?_)
    · rw [if_pos c20] at ho
      exact h13040_J300 l0 l1 l2 l3 l4 l5 l6 l7 l8 l9 l10 l11 r19  S Ga _ _ h2 ho
    · rw [if_neg c20] at ho
      refine us_aload_n hR dL_accuses_239 rfl ?_
      refine us_iload hR dL_accuses_240 rfl ?_
      have hg := gd_c ho
      rw [gd_e hg] at ho
      refine ul_iaload h2 hg hR dL_accuses_242 ?_
      refine us_bipushC hR dL_accuses_243 (c := 8) (by decide) ?_
      have hg := gd_c ho
      rw [gd_e hg] at ho
      refine us_irem hR dL_accuses_245 hg ?_
      refine us_aload_n hR dL_accuses_246 rfl ?_
      refine us_iload hR dL_accuses_247 rfl ?_
      have hg := gd_c ho
      rw [gd_e hg] at ho
      refine ul_iaload h2 hg hR dL_accuses_249 ?_
      refine us_bipushC hR dL_accuses_250 (c := 8) (by decide) ?_
      have hg := gd_c ho
      rw [gd_e hg] at ho
      refine us_irem hR dL_accuses_252 hg ?_
      refine us_icmp_eq hR dL_accuses_253 300 (by decide) (fun c21 => ?_) (fun c21 => ?_)
      · rw [if_pos c21] at ho
        exact h13040_J300 l0 l1 l2 l3 l4 l5 l6 l7 l8 l9 l10 l11 r19  S Ga _ _ h2 ho
      · rw [if_neg c21] at ho
        refine us_aload_n hR dL_accuses_256 rfl ?_
        refine us_iload hR dL_accuses_257 rfl ?_
        have hg := gd_c ho
        rw [gd_e hg] at ho
        refine ul_iaload h2 hg hR dL_accuses_259 ?_
        refine us_bipushC hR dL_accuses_260 (c := 8) (by decide) ?_
        have hg := gd_c ho
        rw [gd_e hg] at ho
        refine us_idiv hR dL_accuses_262 hg ?_
        refine us_iconstC hR dL_accuses_263 (c := 4) (by decide) ?_
        have hg := gd_c ho
        rw [gd_e hg] at ho
        refine us_irem hR dL_accuses_264 hg ?_
        refine us_aload_n hR dL_accuses_265 rfl ?_
        refine us_iload hR dL_accuses_266 rfl ?_
        have hg := gd_c ho
        rw [gd_e hg] at ho
        refine ul_iaload h2 hg hR dL_accuses_268 ?_
        refine us_bipushC hR dL_accuses_269 (c := 8) (by decide) ?_
        have hg := gd_c ho
        rw [gd_e hg] at ho
        refine us_idiv hR dL_accuses_271 hg ?_
        refine us_iconstC hR dL_accuses_272 (c := 4) (by decide) ?_
        have hg := gd_c ho
        rw [gd_e hg] at ho
        refine us_irem hR dL_accuses_273 hg ?_
        refine us_icmp_ne hR dL_accuses_274 300 (by decide) (fun c22 => ?_) (fun c22 => ?_)
        · rw [if_neg c22] at ho
          exact h13040_J300 l0 l1 l2 l3 l4 l5 l6 l7 l8 l9 l10 l11 r19  S Ga _ _ h2 ho
        · rw [if_pos c22] at ho
          refine us_iload hR dL_accuses_277 rfl ?_
          refine us_iconstC hR dL_accuses_279 (c := 2) (by decide) ?_
          refine us_icmp_le hR dL_accuses_280 300 (by decide) (fun c23 => ?_) (fun c23 => ?_)
          · rw [if_pos c23] at ho
            exact h13040_J300 l0 l1 l2 l3 l4 l5 l6 l7 l8 l9 l10 l11 r19  S Ga _ _ h2 ho
          · rw [if_neg c23] at ho
            refine us_aload_n hR dL_accuses_283 rfl ?_
            refine us_iload hR dL_accuses_284 rfl ?_
            refine us_iload hR dL_accuses_286 rfl ?_
            have hg := gd_c ho
            rw [gd_e hg] at ho
            have hme := hg
            have hb := gd_c ho
            rw [gd_e hb] at ho
            refine us_callS hR dL_accuses_288 (y := 13024) (by decide +kernel) (by decide) (J := i13024) rfl rfl rfl rfl (rest := _) (Nat.le_of_ble_eq_true rfl) hb.1 hb.2 ?_
            obtain ⟨r24, hr24⟩ := bP_ex ho
            replace ho := bP_go ho hr24
            refine sh_13024 h2.1 hme hr24 ?_
            refine us_bipushC hR dL_accuses_291 (c := 79) (by decide) ?_
            refine us_icmp_le hR dL_accuses_293 300 (by decide) (fun c25 => ?_) (fun c25 => ?_)
            · rw [if_pos c25] at ho
              exact h13040_J300 l0 l1 l2 l3 l4 l5 l6 l7 l8 l9 l10 l11 r19  S Ga _ _ h2 ho
            · rw [if_neg c25] at ho
              refine us_iconstC hR dL_accuses_296 (c := 1) (by decide) ?_
              refine us_goto hR dL_accuses_297 301 (by decide) ?_
              exact h13040_J301 l0 l1 l2 l3 l4 l5 l6 l7 l8 l9 l10 l11 r19 1  S Ga _ _ h2 ho
  have h13040_J139 : ∀ (l0 : Nat) (l1 : Nat) (l2 : Int32) (l3 : Nat) (l4 : Int32) (l5 : Nat) (l6 : Int32) (l7 : Int32) (l8 : Int32) (l9 : Int32) (k0 : Int32)  (S : Lx) (Ga : ab_G) (bc bs : Nat) (h2 : LRep Ga S) (ho : l_13040_J139 l0 l1 l2 l3 l4 l5 l6 l7 l8 l9 k0 bc bs S = some o), R 139 [some (.ref l0), some (.ref l1), some (.int l2), some (.ref l3), some (.int l4), some (.ref l5), some (.int l6), some (.int l7), some (.int l8), some (.int l9), none, none, none, none, none] [.int k0] Ga bc bs := by
    intro l0 l1 l2 l3 l4 l5 l6 l7 l8 l9 k0  S Ga bc bs h2 ho
    unfold l_13040_J139 at ho
    refine us_istore hR dL_accuses_139 (Nat.le_of_ble_eq_true rfl) ?_
    refine us_aload_n hR dL_accuses_141 rfl ?_
    refine us_aload_n hR dL_accuses_142 rfl ?_
    refine us_aload_n hR dL_accuses_143 rfl ?_
    refine us_aload_n hR dL_accuses_144 rfl ?_
    refine us_iload hR dL_accuses_145 rfl ?_
    refine us_iconstC hR dL_accuses_147 (c := 0) (by decide) ?_
    have hb := gd_c ho
    rw [gd_e hb] at ho
    refine us_callS hR dL_accuses_148 (y := 13037) (by decide +kernel) (by decide) (J := i13037) rfl rfl rfl rfl (rest := _) (Nat.le_of_ble_eq_true rfl) hb.1 hb.2 ?_
    obtain ⟨r26, hr26⟩ := bP_ex ho
    replace ho := bP_go ho hr26
    refine sl_13037 h2 hr26 ?_
    refine us_istore hR dL_accuses_151 (Nat.le_of_ble_eq_true rfl) ?_
    refine us_aload_n hR dL_accuses_153 rfl ?_
    refine us_iload hR dL_accuses_154 rfl ?_
    have hg := gd_c ho
    rw [gd_e hg] at ho
    refine ul_iaload h2 hg hR dL_accuses_156 ?_
    refine us_ldc hR dL_accuses_157 (v := 65535) (by decide +kernel) ?_
    refine us_icmp_le hR dL_accuses_159 224 (by decide) (fun c27 => ?_) (fun c27 => ?_)
    · rw [if_pos c27] at ho
      exact h13040_J224 l0 l1 l2 l3 l4 l5 l6 l7 l8 l9 k0 r26  S Ga _ _ h2 ho
    · rw [if_neg c27] at ho
      refine us_iload hR dL_accuses_162 rfl ?_
      refine us_bipushC hR dL_accuses_164 (c := 10) (by decide) ?_
      refine us_ishr hR dL_accuses_166 ?_
      refine us_iconstC hR dL_accuses_167 (c := 2) (by decide) ?_
      refine us_callS hR dL_accuses_168 (y := 13001) (by decide +kernel) (by decide) (J := i13001) rfl rfl rfl rfl (rest := _) (Nat.le_of_ble_eq_true rfl) (Nat.zero_le _) (Nat.zero_le _) ?_
      obtain ⟨r28, hr28⟩ := bP_ex ho
      replace ho := bP_go ho hr28
      refine sh_13001 h2.1 hr28 ?_
      refine us_if_ne hR dL_accuses_171 224 (by decide) (fun c29 => ?_) (fun c29 => ?_)
      · rw [if_neg c29] at ho
        exact h13040_J224 l0 l1 l2 l3 l4 l5 l6 l7 l8 l9 k0 r26  S Ga _ _ h2 ho
      · rw [if_pos c29] at ho
        refine us_aload_n hR dL_accuses_174 rfl ?_
        refine us_iload hR dL_accuses_175 rfl ?_
        refine us_dup2 hR dL_accuses_177 rfl rfl ?_
        have hg := gd_c ho
        rw [gd_e hg] at ho
        refine ul_iaload h2 hg hR dL_accuses_178 ?_
        refine us_ldc hR dL_accuses_179 (v := 65536) (by decide +kernel) ?_
        refine us_isub hR dL_accuses_181 ?_
        have hg := gd_c ho
        rw [gd_e hg] at ho
        refine ul_iastore h2 hg hR dL_accuses_182 (fun G30 S30 hs30 h230 => ?_)
        rw [← hs30, bS_eq] at ho
        refine us_iload hR dL_accuses_183 rfl ?_
        refine us_if_eq hR dL_accuses_185 222 (by decide) (fun c31 => ?_) (fun c31 => ?_)
        · rw [if_pos c31] at ho
          refine us_iconstC hR dL_accuses_222 (c := 0) (by decide) ?_
          refine us_iret hR dL_accuses_223 rfl (nar01 (Or.inl rfl)) ?_
          cases ho
          exact h _ (Or.inl rfl) h230
        · rw [if_neg c31] at ho
          refine us_aload_n hR dL_accuses_188 rfl ?_
          refine us_iload hR dL_accuses_189 rfl ?_
          have hg := gd_c ho
          rw [gd_e hg] at ho
          have hme := hg
          have hb := gd_c ho
          rw [gd_e hb] at ho
          refine us_callS hR dL_accuses_191 (y := 13026) (by decide +kernel) (by decide) (J := i13026) rfl rfl rfl rfl (rest := _) (Nat.le_of_ble_eq_true rfl) hb.1 hb.2 ?_
          obtain ⟨q32, hs32⟩ := bO_ex ho
          obtain ⟨T32, r32⟩ := q32
          replace ho := bO_go ho hs32
          refine sh_13026 h230.1 hme hs32 (fun G32 h332 hF32 => ?_)
          have h232 := h230.cls h332 hF32
          obtain ⟨S32, hS32⟩ : ∃ Sz, Sz = lT S30 T32 := ⟨_, rfl⟩
          rw [bS_eq, ← hS32] at ho
          rw [← hS32] at h232
          refine us_aload_n hR dL_accuses_194 rfl ?_
          refine us_aload_n hR dL_accuses_195 rfl ?_
          refine us_aload_n hR dL_accuses_196 rfl ?_
          refine us_aload_n hR dL_accuses_197 rfl ?_
          refine us_iload hR dL_accuses_198 rfl ?_
          refine us_iconstC hR dL_accuses_200 (c := 0) (by decide) ?_
          have hb := gd_c ho
          rw [gd_e hb] at ho
          refine us_callS hR dL_accuses_201 (y := 13037) (by decide +kernel) (by decide) (J := i13037) rfl rfl rfl rfl (rest := _) (Nat.le_of_ble_eq_true rfl) hb.1 hb.2 ?_
          obtain ⟨r33, hr33⟩ := bP_ex ho
          replace ho := bP_go ho hr33
          refine sl_13037 h232 hr33 ?_
          refine us_icmp_ne hR dL_accuses_204 222 (by decide) (fun c34 => ?_) (fun c34 => ?_)
          · rw [if_neg c34] at ho
            refine us_iconstC hR dL_accuses_222 (c := 0) (by decide) ?_
            refine us_iret hR dL_accuses_223 rfl (nar01 (Or.inl rfl)) ?_
            cases ho
            exact h _ (Or.inl rfl) h232
          · rw [if_pos c34] at ho
            refine us_aload_n hR dL_accuses_207 rfl ?_
            refine us_iload hR dL_accuses_208 rfl ?_
            have hg := gd_c ho
            rw [gd_e hg] at ho
            have hme := hg
            have hb := gd_c ho
            rw [gd_e hb] at ho
            refine us_callS hR dL_accuses_210 (y := 13026) (by decide +kernel) (by decide) (J := i13026) rfl rfl rfl rfl (rest := _) (Nat.le_of_ble_eq_true rfl) hb.1 hb.2 ?_
            obtain ⟨q35, hs35⟩ := bO_ex ho
            obtain ⟨T35, r35⟩ := q35
            replace ho := bO_go ho hs35
            refine sh_13026 h232.1 hme hs35 (fun G35 h335 hF35 => ?_)
            have h235 := h232.cls h335 hF35
            obtain ⟨S35, hS35⟩ : ∃ Sz, Sz = lT S32 T35 := ⟨_, rfl⟩
            rw [bS_eq, ← hS35] at ho
            rw [← hS35] at h235
            refine us_ldc hR dL_accuses_213 (v := (-1000003)) (by decide +kernel) ?_
            refine us_icmp_ne hR dL_accuses_215 222 (by decide) (fun c36 => ?_) (fun c36 => ?_)
            · rw [if_neg c36] at ho
              refine us_iconstC hR dL_accuses_222 (c := 0) (by decide) ?_
              refine us_iret hR dL_accuses_223 rfl (nar01 (Or.inl rfl)) ?_
              cases ho
              exact h _ (Or.inl rfl) h235
            · rw [if_pos c36] at ho
              refine us_iconstC hR dL_accuses_218 (c := 1) (by decide) ?_
              refine us_goto hR dL_accuses_219 223 (by decide) ?_
              refine us_iret hR dL_accuses_223 rfl (nar01 (Or.inr rfl)) ?_
              cases ho
              exact h _ (Or.inr rfl) h235
  have h13040_J138 : ∀ (l0 : Nat) (l1 : Nat) (l2 : Int32) (l3 : Nat) (l4 : Int32) (l5 : Nat) (l6 : Int32) (l7 : Int32) (l8 : Int32) (l9 : Int32)  (S : Lx) (Ga : ab_G) (bc bs : Nat) (h2 : LRep Ga S) (ho : l_13040_J138 l0 l1 l2 l3 l4 l5 l6 l7 l8 l9 bc bs S = some o), R 138 [some (.ref l0), some (.ref l1), some (.int l2), some (.ref l3), some (.int l4), some (.ref l5), some (.int l6), some (.int l7), some (.int l8), some (.int l9), none, none, none, none, none] [] Ga bc bs := by
    intro l0 l1 l2 l3 l4 l5 l6 l7 l8 l9  S Ga bc bs h2 ho
    unfold l_13040_J138 at ho
    refine us_iconstC hR dL_accuses_138 (c := 0) (by decide) ?_
    exact h13040_J139 l0 l1 l2 l3 l4 l5 l6 l7 l8 l9 0  S Ga _ _ h2 ho
  have h13040_J97 : ∀ (l0 : Nat) (l1 : Nat) (l2 : Int32) (l3 : Nat) (l4 : Int32) (l5 : Nat) (l6 : Int32) (l7 : Int32) (l8 : Int32) (l9 : Int32) (k0 : Int32) (k1 : Int32)  (S : Lx) (Ga : ab_G) (bc bs : Nat) (h2 : LRep Ga S) (ho : l_13040_J97 l0 l1 l2 l3 l4 l5 l6 l7 l8 l9 k0 k1 bc bs S = some o), R 97 [some (.ref l0), some (.ref l1), some (.int l2), some (.ref l3), some (.int l4), some (.ref l5), some (.int l6), some (.int l7), some (.int l8), some (.int l9), none, none, none, none, none] [.int k0, .int k1] Ga bc bs := by
    intro l0 l1 l2 l3 l4 l5 l6 l7 l8 l9 k0 k1  S Ga bc bs h2 ho
    unfold l_13040_J97 at ho
    refine us_icmp_ne hR dL_accuses_97 138 (by decide) (fun c37 => ?_) (fun c37 => ?_)
    · rw [if_neg c37] at ho
      exact h13040_J138 l0 l1 l2 l3 l4 l5 l6 l7 l8 l9  S Ga _ _ h2 ho
    · rw [if_pos c37] at ho
      refine us_aload_n hR dL_accuses_100 rfl ?_
      refine us_iload hR dL_accuses_101 rfl ?_
      refine us_iload hR dL_accuses_103 rfl ?_
      have hg := gd_c ho
      rw [gd_e hg] at ho
      have hme := hg
      have hb := gd_c ho
      rw [gd_e hb] at ho
      refine us_callS hR dL_accuses_105 (y := 13024) (by decide +kernel) (by decide) (J := i13024) rfl rfl rfl rfl (rest := _) (Nat.le_of_ble_eq_true rfl) hb.1 hb.2 ?_
      obtain ⟨r38, hr38⟩ := bP_ex ho
      replace ho := bP_go ho hr38
      refine sh_13024 h2.1 hme hr38 ?_
      refine us_aload_n hR dL_accuses_108 rfl ?_
      refine us_iload hR dL_accuses_109 rfl ?_
      refine us_iload hR dL_accuses_111 rfl ?_
      have hg := gd_c ho
      rw [gd_e hg] at ho
      have hme := hg
      have hb := gd_c ho
      rw [gd_e hb] at ho
      refine us_callS hR dL_accuses_113 (y := 13024) (by decide +kernel) (by decide) (J := i13024) rfl rfl rfl rfl (rest := _) (Nat.le_of_ble_eq_true rfl) hb.1 hb.2 ?_
      obtain ⟨r39, hr39⟩ := bP_ex ho
      replace ho := bP_go ho hr39
      refine sh_13024 h2.1 hme hr39 ?_
      refine us_icmp_ne hR dL_accuses_116 138 (by decide) (fun c40 => ?_) (fun c40 => ?_)
      · rw [if_neg c40] at ho
        exact h13040_J138 l0 l1 l2 l3 l4 l5 l6 l7 l8 l9  S Ga _ _ h2 ho
      · rw [if_pos c40] at ho
        refine us_aload_n hR dL_accuses_119 rfl ?_
        refine us_iload hR dL_accuses_120 rfl ?_
        refine us_aload hR dL_accuses_122 rfl ?_
        refine us_iconstC hR dL_accuses_124 (c := 1) (by decide) ?_
        have hg := gd_c ho
        rw [gd_e hg] at ho
        refine ul_iaload h2 hg hR dL_accuses_125 ?_
        have hg := gd_c ho
        rw [gd_e hg] at ho
        have hme := hg
        have hb := gd_c ho
        rw [gd_e hb] at ho
        refine us_callS hR dL_accuses_126 (y := 13023) (by decide +kernel) (by decide) (J := i13023) rfl rfl rfl rfl (rest := _) (Nat.le_of_ble_eq_true rfl) hb.1 hb.2 ?_
        obtain ⟨r41, hr41⟩ := bP_ex ho
        replace ho := bP_go ho hr41
        refine sh_13023 h2.1 hme hr41 ?_
        refine us_ldc hR dL_accuses_129 (v := (-1000001)) (by decide +kernel) ?_
        refine us_icmp_ne hR dL_accuses_131 138 (by decide) (fun c42 => ?_) (fun c42 => ?_)
        · rw [if_neg c42] at ho
          exact h13040_J138 l0 l1 l2 l3 l4 l5 l6 l7 l8 l9  S Ga _ _ h2 ho
        · rw [if_pos c42] at ho
          refine us_iconstC hR dL_accuses_134 (c := 1) (by decide) ?_
          refine us_goto hR dL_accuses_135 139 (by decide) ?_
          exact h13040_J139 l0 l1 l2 l3 l4 l5 l6 l7 l8 l9 1  S Ga _ _ h2 ho
  change R _ _ _ _ 520 3200
  refine us_iload hR dL_accuses_0 rfl ?_
  refine us_aload hR dL_accuses_2 rfl ?_
  refine us_iconstC hR dL_accuses_4 (c := 1) (by decide) ?_
  have hg := gd_c ho
  rw [gd_e hg] at ho
  refine ul_iaload h2 hg hR dL_accuses_5 ?_
  refine us_callS hR dL_accuses_6 (y := 13001) (by decide +kernel) (by decide) (J := i13001) rfl rfl rfl rfl (rest := _) (Nat.le_of_ble_eq_true rfl) (Nat.zero_le _) (Nat.zero_le _) ?_
  obtain ⟨r43, hr43⟩ := bP_ex ho
  replace ho := bP_go ho hr43
  refine sh_13001 h2.1 hr43 ?_
  refine us_istore hR dL_accuses_9 (Nat.le_of_ble_eq_true rfl) ?_
  refine us_iload hR dL_accuses_11 rfl ?_
  refine us_iconstC hR dL_accuses_13 (c := 5) (by decide) ?_
  refine us_ishr hR dL_accuses_14 ?_
  refine us_aload hR dL_accuses_15 rfl ?_
  refine us_iconstC hR dL_accuses_17 (c := 1) (by decide) ?_
  have hg := gd_c ho
  rw [gd_e hg] at ho
  refine ul_iaload h2 hg hR dL_accuses_18 ?_
  refine us_callS hR dL_accuses_19 (y := 13001) (by decide +kernel) (by decide) (J := i13001) rfl rfl rfl rfl (rest := _) (Nat.le_of_ble_eq_true rfl) (Nat.zero_le _) (Nat.zero_le _) ?_
  obtain ⟨r44, hr44⟩ := bP_ex ho
  replace ho := bP_go ho hr44
  refine sh_13001 h2.1 hr44 ?_
  refine us_istore hR dL_accuses_22 (Nat.le_of_ble_eq_true rfl) ?_
  refine us_aload_n hR dL_accuses_24 rfl ?_
  refine us_iload hR dL_accuses_25 rfl ?_
  refine us_iload hR dL_accuses_27 rfl ?_
  have hg := gd_c ho
  rw [gd_e hg] at ho
  have hme := hg
  refine us_callS hR dL_accuses_29 (y := 13023) (by decide +kernel) (by decide) (J := i13023) rfl rfl rfl rfl (rest := _) (Nat.le_of_ble_eq_true rfl) (Nat.le_of_ble_eq_true rfl) (Nat.le_of_ble_eq_true rfl) ?_
  obtain ⟨r45, hr45⟩ := bP_ex ho
  replace ho := bP_go ho hr45
  refine sh_13023 h2.1 hme hr45 ?_
  change R _ _ _ _ 517 3182
  refine us_istore hR dL_accuses_32 (Nat.le_of_ble_eq_true rfl) ?_
  refine us_aload_n hR dL_accuses_34 rfl ?_
  refine us_iload hR dL_accuses_35 rfl ?_
  have hg := gd_c ho
  rw [gd_e hg] at ho
  have hme := hg
  refine us_callS hR dL_accuses_37 (y := 13022) (by decide +kernel) (by decide) (J := i13022) rfl rfl rfl rfl (rest := _) (Nat.le_of_ble_eq_true rfl) (Nat.le_of_ble_eq_true rfl) (Nat.le_of_ble_eq_true rfl) ?_
  obtain ⟨r46, hr46⟩ := bP_ex ho
  replace ho := bP_go ho hr46
  refine sh_13022 h2.1 hme hr46 ?_
  change R _ _ _ _ 516 3176
  refine us_aload_n hR dL_accuses_40 rfl ?_
  refine us_iload hR dL_accuses_41 rfl ?_
  have hg := gd_c ho
  rw [gd_e hg] at ho
  have hme := hg
  refine us_callS hR dL_accuses_43 (y := 13022) (by decide +kernel) (by decide) (J := i13022) rfl rfl rfl rfl (rest := _) (Nat.le_of_ble_eq_true rfl) (Nat.le_of_ble_eq_true rfl) (Nat.le_of_ble_eq_true rfl) ?_
  obtain ⟨r47, hr47⟩ := bP_ex ho
  replace ho := bP_go ho hr47
  refine sh_13022 h2.1 hme hr47 ?_
  change R _ _ _ _ 515 3170
  refine us_iadd hR dL_accuses_46 ?_
  refine us_istore hR dL_accuses_47 (Nat.le_of_ble_eq_true rfl) ?_
  refine us_iload hR dL_accuses_49 rfl ?_
  refine us_aload_n hR dL_accuses_51 rfl ?_
  refine us_iload hR dL_accuses_52 rfl ?_
  refine us_iload hR dL_accuses_54 rfl ?_
  have hg := gd_c ho
  rw [gd_e hg] at ho
  have hme := hg
  refine us_callS hR dL_accuses_56 (y := 13023) (by decide +kernel) (by decide) (J := i13023) rfl rfl rfl rfl (rest := _) (Nat.le_of_ble_eq_true rfl) (Nat.le_of_ble_eq_true rfl) (Nat.le_of_ble_eq_true rfl) ?_
  obtain ⟨r48, hr48⟩ := bP_ex ho
  replace ho := bP_go ho hr48
  refine sh_13023 h2.1 hme hr48 ?_
  change R _ _ _ _ 512 3152
  refine us_icmp_ne hR dL_accuses_59 138 (by decide) (fun c49 => ?_) (fun c49 => ?_)
  · rw [if_neg c49] at ho
    exact h13040_J138 x0 x1 x2 x3 x4 x5 r43 r44 r45 (r46 + r47)  S G _ _ h2 ho
  · rw [if_pos c49] at ho
    change R _ _ _ _ 512 3152
    refine us_iconstC hR dL_accuses_62 (c := 2) (by decide) ?_
    refine us_iload hR dL_accuses_63 rfl ?_
    refine us_imul hR dL_accuses_65 ?_
    refine us_iload hR dL_accuses_66 rfl ?_
    refine us_icmp_gt hR dL_accuses_68 138 (by decide) (fun c50 => ?_) (fun c50 => ?_)
    · rw [if_pos c50] at ho
      exact h13040_J138 x0 x1 x2 x3 x4 x5 r43 r44 r45 (r46 + r47)  S G _ _ h2 ho
    · rw [if_neg c50] at ho
      change R _ _ _ _ 512 3152
      refine us_aload_n hR dL_accuses_71 rfl ?_
      refine us_iload hR dL_accuses_72 rfl ?_
      refine us_iload hR dL_accuses_74 rfl ?_
      have hg := gd_c ho
      rw [gd_e hg] at ho
      have hme := hg
      refine us_callS hR dL_accuses_76 (y := 13024) (by decide +kernel) (by decide) (J := i13024) rfl rfl rfl rfl (rest := _) (Nat.le_of_ble_eq_true rfl) (Nat.le_of_ble_eq_true rfl) (Nat.le_of_ble_eq_true rfl) ?_
      obtain ⟨r51, hr51⟩ := bP_ex ho
      replace ho := bP_go ho hr51
      refine sh_13024 h2.1 hme hr51 ?_
      change R _ _ _ _ 506 3116
      refine us_iload hR dL_accuses_79 rfl ?_
      refine us_if_ne hR dL_accuses_81 88 (by decide) (fun c52 => ?_) (fun c52 => ?_)
      · rw [if_neg c52] at ho
        change R _ _ _ _ 506 3116
        refine us_sipushC hR dL_accuses_88 (c := 200) (by decide) ?_
        refine us_iload hR dL_accuses_91 rfl ?_
        refine us_imul hR dL_accuses_93 ?_
        refine us_iload hR dL_accuses_94 rfl ?_
        have hg := gd_c ho
        rw [gd_e hg] at ho
        refine us_idiv hR dL_accuses_96 hg ?_
        exact h13040_J97 x0 x1 x2 x3 x4 x5 r43 r44 r45 (r46 + r47) ((200 * r45) / (r46 + r47)) r51  S G _ _ h2 ho
      · rw [if_pos c52] at ho
        change R _ _ _ _ 506 3116
        refine us_iconstC hR dL_accuses_84 (c := 0) (by decide) ?_
        refine us_goto hR dL_accuses_85 97 (by decide) ?_
        exact h13040_J97 x0 x1 x2 x3 x4 x5 r43 r44 r45 (r46 + r47) 0 r51  S G _ _ h2 ho
end
