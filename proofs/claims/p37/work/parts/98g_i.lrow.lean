/-! the law: an act -/
noncomputable section
set_option maxHeartbeats 2000000 in
set_option maxRecDepth 8000 in
theorem n13042_J100 {d : Nat} {P : ab_Pq} {X : ab_Xq} {o : Lx × Int32} {R : ab_K} (hR : ab_Cl (d + 918) (ab_Gam (d + 918)) (mCi i13042) i13042 0 (fun _ => 0) P X R) (h : ∀ G1, (o.2 = 0 ∨ o.2 = 1) → LRep G1 o.1 → P G1 (some (.int o.2))) : ∀ (l0 : Nat) (l1 : Nat) (l2 : Nat) (l3 : Nat) (l4 : Nat) (l5 : Nat) (l6 : Nat) (l7 : Int32) (l8 : Int32) (l9 : Int32) (k0 : Int32) (k1 : Nat)  (S : Lx) (Ga : ab_G) (bc bs : Nat) (h2 : LRep Ga S) (ho : l_13042_J100 l0 l1 l2 l3 l4 l5 l6 l7 l8 l9 k0 k1 bc bs S = some o), R 100 [some (.ref l0), some (.ref l1), some (.ref l2), some (.ref l3), some (.ref l4), some (.ref l5), some (.ref l6), some (.int l7), some (.int l8), some (.int l9)] [.int k0, .ref k1] Ga bc bs := by
  intro l0 l1 l2 l3 l4 l5 l6 l7 l8 l9 k0 k1  S Ga bc bs h2 ho
  unfold l_13042_J100 at ho
  refine us_iload hR dL_acts_100 rfl ?_
  refine us_bipushC hR dL_acts_102 (c := 8) (by decide) ?_
  refine us_ishr hR dL_acts_104 ?_
  refine us_bipushC hR dL_acts_105 (c := 12) (by decide) ?_
  refine us_callS0 hR dL_acts_107 (y := 13001) (by decide +kernel) (by decide) (J := i13001) rfl rfl rfl rfl (rest := _) (Nat.le_of_ble_eq_true rfl) rfl rfl ?_
  obtain ⟨r1, hr1⟩ := bP_ex ho
  replace ho := bP_go ho hr1
  refine sh_13001 h2.1 hr1 ?_
  refine us_iconstC hR dL_acts_110 (c := 2) (by decide) ?_
  refine us_isub hR dL_acts_111 ?_
  refine us_iload hR dL_acts_112 rfl ?_
  refine us_bipushC hR dL_acts_114 (c := 6) (by decide) ?_
  refine us_ishr hR dL_acts_116 ?_
  refine us_bipushC hR dL_acts_117 (c := 9) (by decide) ?_
  refine us_callS0 hR dL_acts_119 (y := 13001) (by decide +kernel) (by decide) (J := i13001) rfl rfl rfl rfl (rest := _) (Nat.le_of_ble_eq_true rfl) rfl rfl ?_
  obtain ⟨r2, hr2⟩ := bP_ex ho
  replace ho := bP_go ho hr2
  refine sh_13001 h2.1 hr2 ?_
  have hb := gd_c ho
  rw [gd_e hb] at ho
  refine us_callSc 460 20000 hR dL_acts_122 (y := 13035) (by decide +kernel) (by decide) (J := i13035) rfl rfl rfl rfl (rest := _) (Nat.le_of_ble_eq_true rfl) rfl rfl hb.1 hb.2 ?_
  obtain ⟨q3, hs3⟩ := bO_ex ho
  obtain ⟨S3, r3⟩ := q3
  replace ho := bO_go ho hs3
  refine sl_13035 h2 hs3 (fun G3 hb3 h23 => ?_)
  refine us_if_eq hR dL_acts_125 132 (by decide) (fun c4 => ?_) (fun c4 => ?_)
  · rw [if_pos c4] at ho
    refine us_iconstC hR dL_acts_132 (c := 0) (by decide) ?_
    refine us_iret hR dL_acts_133 rfl (nar01 (Or.inl rfl)) ?_
    cases ho
    exact h _ (Or.inl rfl) h23
  · rw [if_neg c4] at ho
    refine us_iconstC hR dL_acts_128 (c := 1) (by decide) ?_
    refine us_goto hR dL_acts_129 133 (by decide) ?_
    refine us_iret hR dL_acts_133 rfl (nar01 (Or.inr rfl)) ?_
    cases ho
    exact h _ (Or.inr rfl) h23
set_option maxHeartbeats 2000000 in
set_option maxRecDepth 8000 in
theorem n13042_J22 {d : Nat} {P : ab_Pq} {X : ab_Xq} {o : Lx × Int32} {R : ab_K} (hR : ab_Cl (d + 918) (ab_Gam (d + 918)) (mCi i13042) i13042 0 (fun _ => 0) P X R) (h : ∀ G1, (o.2 = 0 ∨ o.2 = 1) → LRep G1 o.1 → P G1 (some (.int o.2))) : ∀ (l0 : Nat) (l1 : Nat) (l2 : Nat) (l3 : Nat) (l4 : Nat) (l5 : Nat) (l6 : Nat) (l7 : Int32) (l8 : Int32) (l9 : Int32)  (S : Lx) (Ga : ab_G) (bc bs : Nat) (h2 : LRep Ga S) (ho : l_13042_J22 l0 l1 l2 l3 l4 l5 l6 l7 l8 l9 bc bs S = some o), R 22 [some (.ref l0), some (.ref l1), some (.ref l2), some (.ref l3), some (.ref l4), some (.ref l5), some (.ref l6), some (.int l7), some (.int l8), some (.int l9)] [] Ga bc bs := by
  intro l0 l1 l2 l3 l4 l5 l6 l7 l8 l9  S Ga bc bs h2 ho
  unfold l_13042_J22 at ho
  refine us_aload_n hR dL_acts_22 rfl ?_
  refine us_aload hR dL_acts_23 rfl ?_
  refine us_iload hR dL_acts_25 rfl ?_
  have hb := gd_c ho
  rw [gd_e hb] at ho
  refine us_callSc 180 15000 hR dL_acts_27 (y := 13033) (by decide +kernel) (by decide) (J := i13033) rfl rfl rfl rfl (rest := _) (Nat.le_of_ble_eq_true rfl) rfl rfl hb.1 hb.2 ?_
  obtain ⟨q5, hs5⟩ := bO_ex ho
  obtain ⟨S5, r5⟩ := q5
  replace ho := bO_go ho hs5
  refine sl_13033 h2 hs5 (fun G5 hb5 h25 => ?_)
  refine us_iret hR dL_acts_30 rfl (nar01 hb5) ?_
  cases ho
  exact h _ hb5 h25
set_option maxHeartbeats 2000000 in
set_option maxRecDepth 8000 in
theorem sl_13042 {d : Nat} {G : ab_G} {S : Lx} {P : ab_Pq} {X : ab_Xq} (h2 : LRep G S) {x0 : Nat} {x1 : Nat} {x2 : Nat} {x3 : Nat} {x4 : Nat} {x5 : Nat} {x6 : Nat} {x7 : Int32} {x8 : Int32} {o : Lx × Int32} (ho : l_13042 x0 x1 x2 x3 x4 x5 x6 x7 x8 S = some o) (h : ∀ G1, (o.2 = 0 ∨ o.2 = 1) → LRep G1 o.1 → P G1 (some (.int o.2))) : ab_Gam (d + 919) 13042 [.ref x0, .ref x1, .ref x2, .ref x3, .ref x4, .ref x5, .ref x6, .int x7, .int x8] G P X := by
  unfold l_13042 at ho
  refine ab_enter (I := i13042) rfl (Nat.le_of_ble_eq_true rfl) (fun R hR => ?_)
  have h13042_J100 := n13042_J100 hR h 
  have h13042_J22 := n13042_J22 hR h 
  change R _ [some (.ref x0), some (.ref x1), some (.ref x2), some (.ref x3), some (.ref x4), some (.ref x5), some (.ref x6), some (.int x7), some (.int x8), none] _ _ 1310 48700
  refine us_iload hR dL_acts_0 rfl ?_
  refine us_bipushC hR dL_acts_2 (c := 20) (by decide) ?_
  refine us_callS0 hR dL_acts_4 (y := 13001) (by decide +kernel) (by decide) (J := i13001) rfl rfl rfl rfl (rest := _) (Nat.le_of_ble_eq_true rfl) rfl rfl ?_
  obtain ⟨r6, hr6⟩ := bP_ex ho
  replace ho := bP_go ho hr6
  refine sh_13001 h2.1 hr6 ?_
  refine us_istore hR dL_acts_7 (Nat.le_of_ble_eq_true rfl) ?_
  refine us_aload_n hR dL_acts_9 rfl ?_
  have hg := gd_c ho
  rw [gd_e hg] at ho
  refine us_callV0 hR dL_acts_10 (y := 11004) (by decide +kernel) (by decide) (J := i11004) rfl rfl rfl rfl (H_kind1 h2.1 hg (by decide)) rfl (Nat.le_of_ble_eq_true rfl) rfl rfl ?_
  obtain ⟨r7, hr7⟩ := bP_ex ho
  replace ho := bP_go ho hr7
  refine sh_11004 h2.1 hr7 ?_
  refine us_if_eq hR dL_acts_13 22 (by decide) (fun c8 => ?_) (fun c8 => ?_)
  · rw [if_pos c8] at ho
    exact h13042_J22 x0 x1 x2 x3 x4 x5 x6 x7 x8 r6  S G _ _ h2 ho
  · rw [if_neg c8] at ho
    change R _ [some (.ref x0), some (.ref x1), some (.ref x2), some (.ref x3), some (.ref x4), some (.ref x5), some (.ref x6), some (.int x7), some (.int x8), some (.int r6)] _ _ 1310 48700
    refine us_iload hR dL_acts_16 rfl ?_
    refine us_iconstC hR dL_acts_18 (c := 2) (by decide) ?_
    refine us_icmp_ge hR dL_acts_19 31 (by decide) (fun c9 => ?_) (fun c9 => ?_)
    · rw [if_pos c9] at ho
      change R _ [some (.ref x0), some (.ref x1), some (.ref x2), some (.ref x3), some (.ref x4), some (.ref x5), some (.ref x6), some (.int x7), some (.int x8), some (.int r6)] _ _ 1310 48700
      refine us_iload hR dL_acts_31 rfl ?_
      refine us_bipushC hR dL_acts_33 (c := 7) (by decide) ?_
      refine us_icmp_ge hR dL_acts_35 51 (by decide) (fun c10 => ?_) (fun c10 => ?_)
      · rw [if_pos c10] at ho
        change R _ [some (.ref x0), some (.ref x1), some (.ref x2), some (.ref x3), some (.ref x4), some (.ref x5), some (.ref x6), some (.int x7), some (.int x8), some (.int r6)] _ _ 1310 48700
        refine us_iload hR dL_acts_51 rfl ?_
        refine us_bipushC hR dL_acts_53 (c := 10) (by decide) ?_
        refine us_icmp_ge hR dL_acts_55 134 (by decide) (fun c11 => ?_) (fun c11 => ?_)
        · rw [if_pos c11] at ho
          change R _ [some (.ref x0), some (.ref x1), some (.ref x2), some (.ref x3), some (.ref x4), some (.ref x5), some (.ref x6), some (.int x7), some (.int x8), some (.int r6)] _ _ 1310 48700
          refine us_iload hR dL_acts_134 rfl ?_
          refine us_bipushC hR dL_acts_136 (c := 10) (by decide) ?_
          refine us_icmp_ne hR dL_acts_138 156 (by decide) (fun c12 => ?_) (fun c12 => ?_)
          · rw [if_neg c12] at ho
            change R _ [some (.ref x0), some (.ref x1), some (.ref x2), some (.ref x3), some (.ref x4), some (.ref x5), some (.ref x6), some (.int x7), some (.int x8), some (.int r6)] _ _ 1310 48700
            refine us_aload_n hR dL_acts_156 rfl ?_
            refine us_aload_n hR dL_acts_157 rfl ?_
            refine us_aload_n hR dL_acts_158 rfl ?_
            refine us_aload_n hR dL_acts_159 rfl ?_
            refine us_aload hR dL_acts_160 rfl ?_
            refine us_aload hR dL_acts_162 rfl ?_
            refine us_aload hR dL_acts_164 rfl ?_
            refine us_iload hR dL_acts_166 rfl ?_
            refine us_iconstC hR dL_acts_168 (c := 5) (by decide) ?_
            refine us_ishr hR dL_acts_169 ?_
            refine us_iload hR dL_acts_170 rfl ?_
            refine us_callSc 1300 48600 hR dL_acts_172 (y := 13041) (by decide +kernel) (by decide) (J := i13041) rfl rfl rfl rfl (rest := _) (Nat.le_of_ble_eq_true rfl) rfl rfl (Nat.le_of_ble_eq_true rfl) (Nat.le_of_ble_eq_true rfl) ?_
            obtain ⟨q13, hs13⟩ := bO_ex ho
            obtain ⟨S13, r13⟩ := q13
            replace ho := bO_go ho hs13
            refine sl_13041 h2 hs13 (fun G13 hb13 h213 => ?_)
            change R _ [some (.ref x0), some (.ref x1), some (.ref x2), some (.ref x3), some (.ref x4), some (.ref x5), some (.ref x6), some (.int x7), some (.int x8), some (.int r6)] _ _ 10 100
            refine us_iret hR dL_acts_175 rfl (nar01 hb13) ?_
            cases ho
            exact h _ hb13 h213
          · rw [if_pos c12] at ho
            change R _ [some (.ref x0), some (.ref x1), some (.ref x2), some (.ref x3), some (.ref x4), some (.ref x5), some (.ref x6), some (.int x7), some (.int x8), some (.int r6)] _ _ 1310 48700
            refine us_aload_n hR dL_acts_141 rfl ?_
            refine us_aload hR dL_acts_142 rfl ?_
            refine us_iload hR dL_acts_144 rfl ?_
            refine us_iconstC hR dL_acts_146 (c := 5) (by decide) ?_
            refine us_ishr hR dL_acts_147 ?_
            refine us_iload hR dL_acts_148 rfl ?_
            refine us_callSc 620 44000 hR dL_acts_150 (y := 13036) (by decide +kernel) (by decide) (J := i13036) rfl rfl rfl rfl (rest := _) (Nat.le_of_ble_eq_true rfl) rfl rfl (Nat.le_of_ble_eq_true rfl) (Nat.le_of_ble_eq_true rfl) ?_
            obtain ⟨q14, hs14⟩ := bO_ex ho
            obtain ⟨S14, r14⟩ := q14
            replace ho := bO_go ho hs14
            refine sl_13036 h2 hs14 (fun G14 hb14 h214 => ?_)
            change R _ [some (.ref x0), some (.ref x1), some (.ref x2), some (.ref x3), some (.ref x4), some (.ref x5), some (.ref x6), some (.int x7), some (.int x8), some (.int r6)] _ _ 690 4700
            refine us_goto hR dL_acts_153 175 (by decide) ?_
            refine us_iret hR dL_acts_175 rfl (nar01 hb14) ?_
            cases ho
            exact h _ hb14 h214
        · rw [if_neg c11] at ho
          change R _ [some (.ref x0), some (.ref x1), some (.ref x2), some (.ref x3), some (.ref x4), some (.ref x5), some (.ref x6), some (.int x7), some (.int x8), some (.int r6)] _ _ 1310 48700
          refine us_aload hR dL_acts_58 rfl ?_
          refine us_iconstC hR dL_acts_60 (c := 5) (by decide) ?_
          refine us_dup2 hR dL_acts_61 rfl rfl ?_
          have hg := gd_c ho
          rw [gd_e hg] at ho
          refine ul_iaload h2 hg hR dL_acts_62 ?_
          refine us_iconstC hR dL_acts_63 (c := 1) (by decide) ?_
          refine us_iadd hR dL_acts_64 ?_
          have hg := gd_c ho
          rw [gd_e hg] at ho
          refine ul_iastore h2 hg hR dL_acts_65 (fun G15 S15 hs15 h215 => ?_)
          rw [← hs15, bS_eq] at ho
          refine us_aload hR dL_acts_66 rfl ?_
          refine us_iconstC hR dL_acts_68 (c := 5) (by decide) ?_
          have hg := gd_c ho
          rw [gd_e hg] at ho
          refine ul_iaload h215 hg hR dL_acts_69 ?_
          refine us_bipushC hR dL_acts_70 (c := 30) (by decide) ?_
          refine us_icmp_gt hR dL_acts_72 128 (by decide) (fun c16 => ?_) (fun c16 => ?_)
          · rw [if_pos c16] at ho
            change R _ [some (.ref x0), some (.ref x1), some (.ref x2), some (.ref x3), some (.ref x4), some (.ref x5), some (.ref x6), some (.int x7), some (.int x8), some (.int r6)] _ _ 1310 48700
            refine us_iconstC hR dL_acts_128 (c := 1) (by decide) ?_
            refine us_goto hR dL_acts_129 133 (by decide) ?_
            refine us_iret hR dL_acts_133 rfl (nar01 (Or.inr rfl)) ?_
            cases ho
            exact h _ (Or.inr rfl) h215
          · rw [if_neg c16] at ho
            change R _ [some (.ref x0), some (.ref x1), some (.ref x2), some (.ref x3), some (.ref x4), some (.ref x5), some (.ref x6), some (.int x7), some (.int x8), some (.int r6)] _ _ 1310 48700
            refine us_aload_n hR dL_acts_75 rfl ?_
            refine us_iload hR dL_acts_76 rfl ?_
            refine us_iconstC hR dL_acts_78 (c := 3) (by decide) ?_
            refine us_callS0 hR dL_acts_79 (y := 13001) (by decide +kernel) (by decide) (J := i13001) rfl rfl rfl rfl (rest := _) (Nat.le_of_ble_eq_true rfl) rfl rfl ?_
            obtain ⟨r17, hr17⟩ := bP_ex ho
            replace ho := bP_go ho hr17
            refine sh_13001 h215.1 hr17 ?_
            refine us_if_ne hR dL_acts_82 91 (by decide) (fun c18 => ?_) (fun c18 => ?_)
            · rw [if_neg c18] at ho
              change R _ [some (.ref x0), some (.ref x1), some (.ref x2), some (.ref x3), some (.ref x4), some (.ref x5), some (.ref x6), some (.int x7), some (.int x8), some (.int r6)] _ _ 1310 48700
              refine us_iload hR dL_acts_91 rfl ?_
              refine us_iconstC hR dL_acts_93 (c := 2) (by decide) ?_
              refine us_ishr hR dL_acts_94 ?_
              refine us_bipushC hR dL_acts_95 (c := 60) (by decide) ?_
              refine us_callS0 hR dL_acts_97 (y := 13001) (by decide +kernel) (by decide) (J := i13001) rfl rfl rfl rfl (rest := _) (Nat.le_of_ble_eq_true rfl) rfl rfl ?_
              obtain ⟨r19, hr19⟩ := bP_ex ho
              replace ho := bP_go ho hr19
              refine sh_13001 h215.1 hr19 ?_
              exact h13042_J100 x0 x1 x2 x3 x4 x5 x6 x7 x8 r6 r19 x0  S15 G15 _ _ h215 ho
            · rw [if_pos c18] at ho
              change R _ [some (.ref x0), some (.ref x1), some (.ref x2), some (.ref x3), some (.ref x4), some (.ref x5), some (.ref x6), some (.int x7), some (.int x8), some (.int r6)] _ _ 1310 48700
              refine us_sipushC hR dL_acts_85 (c := 200) (by decide) ?_
              refine us_goto hR dL_acts_88 100 (by decide) ?_
              exact h13042_J100 x0 x1 x2 x3 x4 x5 x6 x7 x8 r6 200 x0  S15 G15 _ _ h215 ho
      · rw [if_neg c10] at ho
        change R _ [some (.ref x0), some (.ref x1), some (.ref x2), some (.ref x3), some (.ref x4), some (.ref x5), some (.ref x6), some (.int x7), some (.int x8), some (.int r6)] _ _ 1310 48700
        refine us_aload_n hR dL_acts_38 rfl ?_
        refine us_aload hR dL_acts_39 rfl ?_
        refine us_iload hR dL_acts_41 rfl ?_
        refine us_iconstC hR dL_acts_43 (c := 5) (by decide) ?_
        refine us_ishr hR dL_acts_44 ?_
        refine us_iload hR dL_acts_45 rfl ?_
        refine us_callSc 460 14000 hR dL_acts_47 (y := 13034) (by decide +kernel) (by decide) (J := i13034) rfl rfl rfl rfl (rest := _) (Nat.le_of_ble_eq_true rfl) rfl rfl (Nat.le_of_ble_eq_true rfl) (Nat.le_of_ble_eq_true rfl) ?_
        obtain ⟨q20, hs20⟩ := bO_ex ho
        obtain ⟨S20, r20⟩ := q20
        replace ho := bO_go ho hs20
        refine sl_13034 h2 hs20 (fun G20 hb20 h220 => ?_)
        change R _ [some (.ref x0), some (.ref x1), some (.ref x2), some (.ref x3), some (.ref x4), some (.ref x5), some (.ref x6), some (.int x7), some (.int x8), some (.int r6)] _ _ 850 34700
        refine us_iret hR dL_acts_50 rfl (nar01 hb20) ?_
        cases ho
        exact h _ hb20 h220
    · rw [if_neg c9] at ho
      exact h13042_J22 x0 x1 x2 x3 x4 x5 x6 x7 x8 r6  S G _ _ h2 ho
end
