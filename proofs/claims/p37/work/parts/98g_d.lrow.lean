/-! the law: marks -/
noncomputable section
set_option maxHeartbeats 2000000 in
set_option maxRecDepth 8000 in
theorem n13037_J164 {d : Nat} {P : ab_Pq} {X : ab_Xq} {o : Int32} {R : ab_K} {G : ab_G} {S : Lx} (h2 : LRep G S) (hR : ab_Cl (d + 45) (ab_Gam (d + 45)) (mCi i13037) i13037 0 (fun _ => 0) P X R) (h : P G (some (.int o))) : ∀ (l0 : Nat) (l1 : Nat) (l2 : Nat) (l3 : Nat) (l4 : Int32) (l5 : Int32) (l6 : Int32) (l7 : Int32) (l8 : Int32) (l9 : Int32) (l10 : Int32) (k0 : Int32)  (bc bs : Nat) (ho : l_13037_J164 l0 l1 l2 l3 l4 l5 l6 l7 l8 l9 l10 k0 bc bs S = some o), R 164 [some (.ref l0), some (.ref l1), some (.ref l2), some (.ref l3), some (.int l4), some (.int l5), some (.int l6), some (.int l7), some (.int l8), some (.int l9), some (.int l10), none] [.int k0] G bc bs := by
  intro l0 l1 l2 l3 l4 l5 l6 l7 l8 l9 l10 k0  bc bs ho
  unfold l_13037_J164 at ho
  refine us_istore hR dL_markOf_164 (Nat.le_of_ble_eq_true rfl) ?_
  refine us_iload hR dL_markOf_166 rfl ?_
  refine us_if_eq hR dL_markOf_168 176 (by decide) (fun c1 => ?_) (fun c1 => ?_)
  · rw [if_pos c1] at ho
    refine us_aload_n hR dL_markOf_176 rfl ?_
    refine us_iload hR dL_markOf_177 rfl ?_
    have hg := gd_c ho
    rw [gd_e hg] at ho
    refine ul_iaload h2 hg hR dL_markOf_179 ?_
    refine us_ldc hR dL_markOf_180 (v := 65535) (by decide +kernel) ?_
    refine us_icmp_le hR dL_markOf_182 189 (by decide) (fun c2 => ?_) (fun c2 => ?_)
    · rw [if_pos c2] at ho
      refine us_iload hR dL_markOf_189 rfl ?_
      refine us_bipushC hR dL_markOf_191 (c := 100) (by decide) ?_
      refine us_iload hR dL_markOf_193 rfl ?_
      refine us_isub hR dL_markOf_195 ?_
      refine us_imul hR dL_markOf_196 ?_
      refine us_bipushC hR dL_markOf_197 (c := 100) (by decide) ?_
      have hg := gd_c ho
      rw [gd_e hg] at ho
      refine us_idiv hR dL_markOf_199 hg ?_
      refine us_iret hR dL_markOf_200 rfl rfl ?_
      cases ho
      exact h
    · rw [if_neg c2] at ho
      refine us_iconstC hR dL_markOf_185 (c := 0) (by decide) ?_
      refine us_goto hR dL_markOf_186 200 (by decide) ?_
      refine us_iret hR dL_markOf_200 rfl rfl ?_
      cases ho
      exact h
  · rw [if_neg c1] at ho
    refine us_iload hR dL_markOf_171 rfl ?_
    refine us_goto hR dL_markOf_173 200 (by decide) ?_
    refine us_iret hR dL_markOf_200 rfl rfl ?_
    cases ho
    exact h
set_option maxHeartbeats 2000000 in
set_option maxRecDepth 8000 in
theorem n13037_J145 {d : Nat} {P : ab_Pq} {X : ab_Xq} {o : Int32} {R : ab_K} {G : ab_G} {S : Lx} (h2 : LRep G S) (hR : ab_Cl (d + 45) (ab_Gam (d + 45)) (mCi i13037) i13037 0 (fun _ => 0) P X R) (h : P G (some (.int o))) : ∀ (l0 : Nat) (l1 : Nat) (l2 : Nat) (l3 : Nat) (l4 : Int32) (l5 : Int32) (l6 : Int32) (l7 : Int32) (l8 : Int32) (l9 : Int32) (k0 : Int32) (w10 : Option Value) (bc bs : Nat) (ho : l_13037_J145 l0 l1 l2 l3 l4 l5 l6 l7 l8 l9 k0 bc bs S = some o), R 145 [some (.ref l0), some (.ref l1), some (.ref l2), some (.ref l3), some (.int l4), some (.int l5), some (.int l6), some (.int l7), some (.int l8), some (.int l9), w10, none] [.int k0] G bc bs := by
  have h13037_J164 := n13037_J164 h2 hR h 
  intro l0 l1 l2 l3 l4 l5 l6 l7 l8 l9 k0 w10 bc bs ho
  unfold l_13037_J145 at ho
  refine us_istore hR dL_markOf_145 (Nat.le_of_ble_eq_true rfl) ?_
  refine us_iload hR dL_markOf_147 rfl ?_
  refine us_if_ne hR dL_markOf_149 156 (by decide) (fun c3 => ?_) (fun c3 => ?_)
  · rw [if_neg c3] at ho
    refine us_bipushC hR dL_markOf_156 (c := 100) (by decide) ?_
    refine us_iload hR dL_markOf_158 rfl ?_
    refine us_imul hR dL_markOf_160 ?_
    refine us_iload hR dL_markOf_161 rfl ?_
    have hg := gd_c ho
    rw [gd_e hg] at ho
    refine us_idiv hR dL_markOf_163 hg ?_
    exact h13037_J164 l0 l1 l2 l3 l4 l5 l6 l7 l8 l9 k0 ((100 * l8) / l7)  _ _ ho
  · rw [if_pos c3] at ho
    refine us_iconstC hR dL_markOf_152 (c := 0) (by decide) ?_
    refine us_goto hR dL_markOf_153 164 (by decide) ?_
    exact h13037_J164 l0 l1 l2 l3 l4 l5 l6 l7 l8 l9 k0 0  _ _ ho
set_option maxHeartbeats 2000000 in
set_option maxRecDepth 8000 in
theorem n13037_J60 {d : Nat} {P : ab_Pq} {X : ab_Xq} {o : Int32} {R : ab_K} {G : ab_G} {S : Lx} (h2 : LRep G S) (hR : ab_Cl (d + 45) (ab_Gam (d + 45)) (mCi i13037) i13037 0 (fun _ => 0) P X R) (h : P G (some (.int o))) {n20 : Nat} (ih20 : ∀ (l0 : Nat) (l1 : Nat) (l2 : Nat) (l3 : Nat) (l4 : Int32) (l5 : Int32) (l6 : Int32) (l7 : Int32) (l8 : Int32) (l9 : Int32) (w10 : Option Value) (bc bs : Nat) (ho : l_13037_L20 n20 l0 l1 l2 l3 l4 l5 l6 l7 l8 l9 bc bs S = some o), R 20 [some (.ref l0), some (.ref l1), some (.ref l2), some (.ref l3), some (.int l4), some (.int l5), some (.int l6), some (.int l7), some (.int l8), some (.int l9), w10, none] [] G bc bs) : ∀ (l0 : Nat) (l1 : Nat) (l2 : Nat) (l3 : Nat) (l4 : Int32) (l5 : Int32) (l6 : Int32) (l7 : Int32) (l8 : Int32) (l9 : Int32) (k0 : Int32) (w10 : Option Value) (bc bs : Nat) (ho : l_13037_J60 (l_13037_L20 n20) l0 l1 l2 l3 l4 l5 l6 l7 l8 l9 k0 bc bs S = some o), R 60 [some (.ref l0), some (.ref l1), some (.ref l2), some (.ref l3), some (.int l4), some (.int l5), some (.int l6), some (.int l7), some (.int l8), some (.int l9), w10, none] [.int k0] G bc bs := by
  intro l0 l1 l2 l3 l4 l5 l6 l7 l8 l9 k0 w10 bc bs ho
  unfold l_13037_J60 at ho
  refine us_istore hR dL_markOf_60 (Nat.le_of_ble_eq_true rfl) ?_
  refine us_iload hR dL_markOf_62 rfl ?_
  refine us_iload hR dL_markOf_64 rfl ?_
  refine us_iadd hR dL_markOf_66 ?_
  refine us_istore hR dL_markOf_67 (Nat.le_of_ble_eq_true rfl) ?_
  change R _ [some (.ref l0), some (.ref l1), some (.ref l2), some (.ref l3), some (.int l4), some (.int l5), some (.int l6), some (.int (l7 + k0)), some (.int l8), some (.int l9), some (.int k0), none] _ _ _ _
  refine us_iload hR dL_markOf_69 rfl ?_
  refine us_aload_n hR dL_markOf_71 rfl ?_
  refine us_iload hR dL_markOf_72 rfl ?_
  refine us_iload hR dL_markOf_74 rfl ?_
  have hg := gd_c ho
  rw [gd_e hg] at ho
  have hme := hg
  have hb := gd_c ho
  rw [gd_e hb] at ho
  refine us_callSc 2 12 hR dL_markOf_76 (y := 13015) (by decide +kernel) (by decide) (J := i13015) rfl rfl rfl rfl (rest := _) (Nat.le_of_ble_eq_true rfl) rfl rfl hb.1 hb.2 ?_
  obtain ⟨r4, hr4⟩ := bP_ex ho
  replace ho := bP_go ho hr4
  refine sh_13015 h2.1 hme hr4 ?_
  refine us_iconstC hR dL_markOf_79 (c := 1) (by decide) ?_
  refine us_icmp_ne hR dL_markOf_80 88 (by decide) (fun c5 => ?_) (fun c5 => ?_)
  · rw [if_neg c5] at ho
    refine us_iconstC hR dL_markOf_88 (c := 0) (by decide) ?_
    refine us_iadd hR dL_markOf_89 ?_
    refine us_istore hR dL_markOf_90 (Nat.le_of_ble_eq_true rfl) ?_
    refine us_iincC hR dL_markOf_92 rfl (Nat.le_of_ble_eq_true rfl) (c := 1) (by decide) ?_
    change R _ [some (.ref l0), some (.ref l1), some (.ref l2), some (.ref l3), some (.int l4), some (.int l5), some (.int l6), some (.int (l7 + k0)), some (.int (l8 + 0)), some (.int (l9 + 1)), some (.int k0), none] _ _ _ _
    refine us_goto hR dL_markOf_95 20 (by decide) ?_
    exact ih20 l0 l1 l2 l3 l4 l5 l6 (l7 + k0) (l8 + 0) (l9 + 1) _ _ _ ho
  · rw [if_pos c5] at ho
    refine us_iload hR dL_markOf_83 rfl ?_
    refine us_goto hR dL_markOf_85 89 (by decide) ?_
    refine us_iadd hR dL_markOf_89 ?_
    refine us_istore hR dL_markOf_90 (Nat.le_of_ble_eq_true rfl) ?_
    refine us_iincC hR dL_markOf_92 rfl (Nat.le_of_ble_eq_true rfl) (c := 1) (by decide) ?_
    change R _ [some (.ref l0), some (.ref l1), some (.ref l2), some (.ref l3), some (.int l4), some (.int l5), some (.int l6), some (.int (l7 + k0)), some (.int (l8 + k0)), some (.int (l9 + 1)), some (.int k0), none] _ _ _ _
    refine us_goto hR dL_markOf_95 20 (by decide) ?_
    exact ih20 l0 l1 l2 l3 l4 l5 l6 (l7 + k0) (l8 + k0) (l9 + 1) _ _ _ ho
set_option maxHeartbeats 2000000 in
set_option maxRecDepth 8000 in
theorem n13037_L20 {d : Nat} {P : ab_Pq} {X : ab_Xq} {o : Int32} {R : ab_K} {G : ab_G} {S : Lx} (h2 : LRep G S) (hR : ab_Cl (d + 45) (ab_Gam (d + 45)) (mCi i13037) i13037 0 (fun _ => 0) P X R) (h : P G (some (.int o))) : ∀ (n : Nat) (l0 : Nat) (l1 : Nat) (l2 : Nat) (l3 : Nat) (l4 : Int32) (l5 : Int32) (l6 : Int32) (l7 : Int32) (l8 : Int32) (l9 : Int32) (w10 : Option Value) (bc bs : Nat) (ho : l_13037_L20 n l0 l1 l2 l3 l4 l5 l6 l7 l8 l9 bc bs S = some o), R 20 [some (.ref l0), some (.ref l1), some (.ref l2), some (.ref l3), some (.int l4), some (.int l5), some (.int l6), some (.int l7), some (.int l8), some (.int l9), w10, none] [] G bc bs := by
  have h13037_J145 := n13037_J145 h2 hR h 
  intro n
  induction n with
  | zero => intro l0 l1 l2 l3 l4 l5 l6 l7 l8 l9 w10 bc bs ho; exact absurd ho (by rw [l_13037_L20]; intro hc; cases hc)
  | succ n20 ih20 =>
    have h13037_J60 := n13037_J60 h2 hR h ih20
    intro l0 l1 l2 l3 l4 l5 l6 l7 l8 l9 w10 bc bs ho
    rw [l_13037_L20] at ho
    refine us_iload hR dL_markOf_20 rfl ?_
    refine us_aload_n hR dL_markOf_22 rfl ?_
    refine us_iconstC hR dL_markOf_23 (c := 4) (by decide) ?_
    refine us_iload hR dL_markOf_24 rfl ?_
    refine us_iadd hR dL_markOf_26 ?_
    have hg := gd_c ho
    rw [gd_e hg] at ho
    refine ul_iaload h2 hg hR dL_markOf_27 ?_
    refine us_icmp_ge hR dL_markOf_28 98 (by decide) (fun c6 => ?_) (fun c6 => ?_)
    · rw [if_pos c6] at ho
      refine us_aload_n hR dL_markOf_98 rfl ?_
      refine us_iload hR dL_markOf_99 rfl ?_
      have hg := gd_c ho
      rw [gd_e hg] at ho
      refine ul_iaload h2 hg hR dL_markOf_101 ?_
      refine us_bipushC hR dL_markOf_102 (c := 32) (by decide) ?_
      have hg := gd_c ho
      rw [gd_e hg] at ho
      refine us_idiv hR dL_markOf_104 hg ?_
      refine us_sipushC hR dL_markOf_105 (c := 2048) (by decide) ?_
      have hg := gd_c ho
      rw [gd_e hg] at ho
      refine us_irem hR dL_markOf_108 hg ?_
      refine us_aload_n hR dL_markOf_109 rfl ?_
      refine us_iload hR dL_markOf_110 rfl ?_
      have hg := gd_c ho
      rw [gd_e hg] at ho
      refine ul_iaload h2 hg hR dL_markOf_112 ?_
      refine us_sipushC hR dL_markOf_113 (c := 4096) (by decide) ?_
      have hg := gd_c ho
      rw [gd_e hg] at ho
      refine us_idiv hR dL_markOf_116 hg ?_
      refine us_isub hR dL_markOf_117 ?_
      refine us_istore hR dL_markOf_118 (Nat.le_of_ble_eq_true rfl) ?_
      refine us_iload hR dL_markOf_120 rfl ?_
      refine us_if_ge hR dL_markOf_122 129 (by decide) (fun c7 => ?_) (fun c7 => ?_)
      · rw [if_pos c7] at ho
        refine us_iload hR dL_markOf_129 rfl ?_
        refine us_iconstC hR dL_markOf_131 (c := 5) (by decide) ?_
        refine us_icmp_le hR dL_markOf_132 140 (by decide) (fun c8 => ?_) (fun c8 => ?_)
        · rw [if_pos c8] at ho
          refine us_bipushC hR dL_markOf_140 (c := 10) (by decide) ?_
          refine us_iload hR dL_markOf_142 rfl ?_
          refine us_imul hR dL_markOf_144 ?_
          exact h13037_J145 l0 l1 l2 l3 l4 l5 l6 l7 l8 ((((xg (S.2 l3) l4) / 32) % 2048) - ((xg (S.2 l2) l6) / 4096)) (10 * ((((xg (S.2 l3) l4) / 32) % 2048) - ((xg (S.2 l2) l6) / 4096))) _ _ _ ho
        · rw [if_neg c8] at ho
          refine us_bipushC hR dL_markOf_135 (c := 50) (by decide) ?_
          refine us_goto hR dL_markOf_137 145 (by decide) ?_
          exact h13037_J145 l0 l1 l2 l3 l4 l5 l6 l7 l8 ((((xg (S.2 l3) l4) / 32) % 2048) - ((xg (S.2 l2) l6) / 4096)) 50 _ _ _ ho
      · rw [if_neg c7] at ho
        refine us_iconstC hR dL_markOf_125 (c := 0) (by decide) ?_
        refine us_goto hR dL_markOf_126 145 (by decide) ?_
        exact h13037_J145 l0 l1 l2 l3 l4 l5 l6 l7 l8 ((((xg (S.2 l3) l4) / 32) % 2048) - ((xg (S.2 l2) l6) / 4096)) 0 _ _ _ ho
    · rw [if_neg c6] at ho
      refine us_aload_n hR dL_markOf_31 rfl ?_
      refine us_bipushC hR dL_markOf_32 (c := 8) (by decide) ?_
      refine us_iload hR dL_markOf_34 rfl ?_
      refine us_imul hR dL_markOf_36 ?_
      refine us_iload hR dL_markOf_37 rfl ?_
      refine us_iadd hR dL_markOf_39 ?_
      have hg := gd_c ho
      rw [gd_e hg] at ho
      refine ul_iaload h2 hg hR dL_markOf_40 ?_
      refine us_bipushC hR dL_markOf_41 (c := 15) (by decide) ?_
      refine us_icmp_le hR dL_markOf_43 50 (by decide) (fun c9 => ?_) (fun c9 => ?_)
      · rw [if_pos c9] at ho
        refine us_aload_n hR dL_markOf_50 rfl ?_
        refine us_bipushC hR dL_markOf_51 (c := 8) (by decide) ?_
        refine us_iload hR dL_markOf_53 rfl ?_
        refine us_imul hR dL_markOf_55 ?_
        refine us_iload hR dL_markOf_56 rfl ?_
        refine us_iadd hR dL_markOf_58 ?_
        have hg := gd_c ho
        rw [gd_e hg] at ho
        refine ul_iaload h2 hg hR dL_markOf_59 ?_
        exact h13037_J60 l0 l1 l2 l3 l4 l5 l6 l7 l8 l9 (xg (S.2 l1) ((8 * l6) + l9)) _ _ _ ho
      · rw [if_neg c9] at ho
        refine us_iconstC hR dL_markOf_46 (c := 0) (by decide) ?_
        refine us_goto hR dL_markOf_47 60 (by decide) ?_
        exact h13037_J60 l0 l1 l2 l3 l4 l5 l6 l7 l8 l9 0 _ _ _ ho
set_option maxHeartbeats 2000000 in
set_option maxRecDepth 8000 in
theorem sl_13037 {d : Nat} {G : ab_G} {S : Lx} {P : ab_Pq} {X : ab_Xq} (h2 : LRep G S) {x0 : Nat} {x1 : Nat} {x2 : Nat} {x3 : Nat} {x4 : Int32} {x5 : Int32} {o : Int32} (ho : l_13037 x0 x1 x2 x3 x4 x5 S = some o) (h : P G (some (.int o))) : ab_Gam (d + 46) 13037 [.ref x0, .ref x1, .ref x2, .ref x3, .int x4, .int x5] G P X := by
  unfold l_13037 at ho
  refine ab_enter (I := i13037) rfl (Nat.le_of_ble_eq_true rfl) (fun R hR => ?_)
  have h13037_L20 := n13037_L20 h2 hR h 
  change R _ [some (.ref x0), some (.ref x1), some (.ref x2), some (.ref x3), some (.int x4), some (.int x5), none, none, none, none, none, none] _ _ 18 108
  refine us_aload_n hR dL_markOf_0 rfl ?_
  refine us_iload hR dL_markOf_1 rfl ?_
  have hg := gd_c ho
  rw [gd_e hg] at ho
  refine ul_iaload h2 hg hR dL_markOf_3 ?_
  refine us_bipushC hR dL_markOf_4 (c := 8) (by decide) ?_
  have hg := gd_c ho
  rw [gd_e hg] at ho
  refine us_idiv hR dL_markOf_6 hg ?_
  refine us_iconstC hR dL_markOf_7 (c := 4) (by decide) ?_
  have hg := gd_c ho
  rw [gd_e hg] at ho
  refine us_irem hR dL_markOf_8 hg ?_
  refine us_istore hR dL_markOf_9 (Nat.le_of_ble_eq_true rfl) ?_
  refine us_iconstC hR dL_markOf_11 (c := 0) (by decide) ?_
  refine us_istore hR dL_markOf_12 (Nat.le_of_ble_eq_true rfl) ?_
  change R _ [some (.ref x0), some (.ref x1), some (.ref x2), some (.ref x3), some (.int x4), some (.int x5), some (.int (((xg (S.2 x3) x4) / 8) % 4)), some (.int 0), none, none, none, none] _ _ 18 108
  refine us_iconstC hR dL_markOf_14 (c := 0) (by decide) ?_
  refine us_istore hR dL_markOf_15 (Nat.le_of_ble_eq_true rfl) ?_
  refine us_iconstC hR dL_markOf_17 (c := 0) (by decide) ?_
  refine us_istore hR dL_markOf_18 (Nat.le_of_ble_eq_true rfl) ?_
  exact h13037_L20 _ x0 x1 x2 x3 x4 x5 (((xg (S.2 x3) x4) / 8) % 4) 0 0 0 _ _ _ ho
end
