/-! the law: how it begins a draft and goes on -/
noncomputable section
set_option maxHeartbeats 2000000 in
set_option maxRecDepth 8000 in
theorem n13033_J140 {d : Nat} {P : ab_Pq} {X : ab_Xq} {o : Lx × Int32} {R : ab_K} (hR : ab_Cl (d + 916) (ab_Gam (d + 916)) (mCi i13033) i13033 0 (fun _ => 0) P X R) (h : ∀ G1, (o.2 = 0 ∨ o.2 = 1) → LRep G1 o.1 → P G1 (some (.int o.2))) : ∀ (l0 : Nat) (l1 : Nat) (l2 : Int32) (l3 : Int32)  (S : Lx) (Ga : ab_G) (bc bs : Nat) (h2 : LRep Ga S) (ho : l_13033_J140 l0 l1 l2 l3 bc bs S = some o), R 140 [some (.ref l0), some (.ref l1), some (.int l2), some (.int l3)] [] Ga bc bs := by
  intro l0 l1 l2 l3  S Ga bc bs h2 ho
  unfold l_13033_J140 at ho
  refine us_iload_n hR dL_begins_140 rfl ?_
  refine us_if_eq hR dL_begins_141 165 (by decide) (fun c1 => ?_) (fun c1 => ?_)
  · rw [if_pos c1] at ho
    refine us_iconstC hR dL_begins_165 (c := 0) (by decide) ?_
    refine us_iret hR dL_begins_166 rfl (nar01 (Or.inl rfl)) ?_
    cases ho
    exact h _ (Or.inl rfl) h2
  · rw [if_neg c1] at ho
    refine us_aload_n hR dL_begins_144 rfl ?_
    have hg := gd_c ho
    rw [gd_e hg] at ho
    have hb := gd_c ho
    rw [gd_e hb] at ho
    refine us_callVc 40 3700 hR dL_begins_145 (y := 11006) (by decide +kernel) (by decide) (J := i11006) rfl rfl rfl rfl (H_kind1 h2.1 hg (by decide)) rfl (Nat.le_of_ble_eq_true rfl) rfl rfl hb.1 hb.2 ?_
    obtain ⟨q2, hs2⟩ := bO_ex ho
    obtain ⟨T2, r2⟩ := q2
    replace ho := bO_go ho hs2
    refine sh_11006 h2.1 hs2 (fun G2 h32 hF2 => ?_)
    have h22 := h2.cls h32 hF2
    obtain ⟨S2, hS2⟩ : ∃ Sz, Sz = lT S T2 := ⟨_, rfl⟩
    rw [bS_eq, ← hS2] at ho
    rw [← hS2] at h22
    refine us_if_ne hR dL_begins_148 165 (by decide) (fun c3 => ?_) (fun c3 => ?_)
    · rw [if_neg c3] at ho
      refine us_iconstC hR dL_begins_165 (c := 0) (by decide) ?_
      refine us_iret hR dL_begins_166 rfl (nar01 (Or.inl rfl)) ?_
      cases ho
      exact h _ (Or.inl rfl) h22
    · rw [if_pos c3] at ho
      refine us_aload_n hR dL_begins_151 rfl ?_
      have hg := gd_c ho
      rw [gd_e hg] at ho
      have hme := hg
      have hb := gd_c ho
      rw [gd_e hb] at ho
      refine us_callSc 41 3706 hR dL_begins_152 (y := 13005) (by decide +kernel) (by decide) (J := i13005) rfl rfl rfl rfl (rest := _) (Nat.le_of_ble_eq_true rfl) rfl rfl hb.1 hb.2 ?_
      obtain ⟨q4, hs4⟩ := bO_ex ho
      obtain ⟨T4, r4⟩ := q4
      replace ho := bO_go ho hs4
      refine sh_13005 h22.1 hme hs4 (fun G4 h34 hF4 => ?_)
      have h24 := h22.cls h34 hF4
      obtain ⟨S4, hS4⟩ : ∃ Sz, Sz = lT S2 T4 := ⟨_, rfl⟩
      rw [bS_eq, ← hS4] at ho
      rw [← hS4] at h24
      refine us_aload_n hR dL_begins_155 rfl ?_
      refine us_iconstC hR dL_begins_156 (c := 3) (by decide) ?_
      have hg := gd_c ho
      rw [gd_e hg] at ho
      refine ul_iaload h24 hg hR dL_begins_157 ?_
      refine us_icmp_ne hR dL_begins_158 165 (by decide) (fun c5 => ?_) (fun c5 => ?_)
      · rw [if_neg c5] at ho
        refine us_iconstC hR dL_begins_165 (c := 0) (by decide) ?_
        refine us_iret hR dL_begins_166 rfl (nar01 (Or.inl rfl)) ?_
        cases ho
        exact h _ (Or.inl rfl) h24
      · rw [if_pos c5] at ho
        refine us_iconstC hR dL_begins_161 (c := 1) (by decide) ?_
        refine us_goto hR dL_begins_162 166 (by decide) ?_
        refine us_iret hR dL_begins_166 rfl (nar01 (Or.inr rfl)) ?_
        cases ho
        exact h _ (Or.inr rfl) h24
set_option maxHeartbeats 2000000 in
set_option maxRecDepth 8000 in
theorem n13033_J139 {d : Nat} {P : ab_Pq} {X : ab_Xq} {o : Lx × Int32} {R : ab_K} (hR : ab_Cl (d + 916) (ab_Gam (d + 916)) (mCi i13033) i13033 0 (fun _ => 0) P X R) (h : ∀ G1, (o.2 = 0 ∨ o.2 = 1) → LRep G1 o.1 → P G1 (some (.int o.2))) : ∀ (l0 : Nat) (l1 : Nat) (l2 : Int32) (l3 : Int32) (k0 : Int32)  (S : Lx) (Ga : ab_G) (bc bs : Nat) (h2 : LRep Ga S) (ho : l_13033_J139 l0 l1 l2 l3 k0 bc bs S = some o), R 139 [some (.ref l0), some (.ref l1), some (.int l2), some (.int l3)] [.int k0] Ga bc bs := by
  have h13033_J140 := n13033_J140 hR h 
  intro l0 l1 l2 l3 k0  S Ga bc bs h2 ho
  unfold l_13033_J139 at ho
  refine us_istore_n hR dL_begins_139 (Nat.le_of_ble_eq_true rfl) ?_
  exact h13033_J140 l0 l1 l2 k0  S Ga _ _ h2 ho
set_option maxHeartbeats 2000000 in
set_option maxRecDepth 8000 in
theorem n13033_J138 {d : Nat} {P : ab_Pq} {X : ab_Xq} {o : Lx × Int32} {R : ab_K} (hR : ab_Cl (d + 916) (ab_Gam (d + 916)) (mCi i13033) i13033 0 (fun _ => 0) P X R) (h : ∀ G1, (o.2 = 0 ∨ o.2 = 1) → LRep G1 o.1 → P G1 (some (.int o.2))) : ∀ (l0 : Nat) (l1 : Nat) (l2 : Int32) (l3 : Int32)  (S : Lx) (Ga : ab_G) (bc bs : Nat) (h2 : LRep Ga S) (ho : l_13033_J138 l0 l1 l2 l3 bc bs S = some o), R 138 [some (.ref l0), some (.ref l1), some (.int l2), some (.int l3)] [] Ga bc bs := by
  have h13033_J139 := n13033_J139 hR h 
  intro l0 l1 l2 l3  S Ga bc bs h2 ho
  unfold l_13033_J138 at ho
  refine us_iconstC hR dL_begins_138 (c := 0) (by decide) ?_
  exact h13033_J139 l0 l1 l2 l3 0  S Ga _ _ h2 ho
set_option maxHeartbeats 2000000 in
set_option maxRecDepth 8000 in
theorem n13033_J86 {d : Nat} {P : ab_Pq} {X : ab_Xq} {o : Lx × Int32} {R : ab_K} (hR : ab_Cl (d + 916) (ab_Gam (d + 916)) (mCi i13033) i13033 0 (fun _ => 0) P X R) (h : ∀ G1, (o.2 = 0 ∨ o.2 = 1) → LRep G1 o.1 → P G1 (some (.int o.2))) : ∀ (l0 : Nat) (l1 : Nat) (l2 : Int32) (l3 : Int32) (k0 : Int32)  (S : Lx) (Ga : ab_G) (bc bs : Nat) (h2 : LRep Ga S) (ho : l_13033_J86 l0 l1 l2 l3 k0 bc bs S = some o), R 86 [some (.ref l0), some (.ref l1), some (.int l2), some (.int l3)] [.int k0] Ga bc bs := by
  have h13033_J140 := n13033_J140 hR h 
  intro l0 l1 l2 l3 k0  S Ga bc bs h2 ho
  unfold l_13033_J86 at ho
  refine us_istore_n hR dL_begins_86 (Nat.le_of_ble_eq_true rfl) ?_
  refine us_goto hR dL_begins_87 140 (by decide) ?_
  exact h13033_J140 l0 l1 l2 k0  S Ga _ _ h2 ho
set_option maxHeartbeats 2000000 in
set_option maxRecDepth 8000 in
theorem n13033_J85 {d : Nat} {P : ab_Pq} {X : ab_Xq} {o : Lx × Int32} {R : ab_K} (hR : ab_Cl (d + 916) (ab_Gam (d + 916)) (mCi i13033) i13033 0 (fun _ => 0) P X R) (h : ∀ G1, (o.2 = 0 ∨ o.2 = 1) → LRep G1 o.1 → P G1 (some (.int o.2))) : ∀ (l0 : Nat) (l1 : Nat) (l2 : Int32) (l3 : Int32)  (S : Lx) (Ga : ab_G) (bc bs : Nat) (h2 : LRep Ga S) (ho : l_13033_J85 l0 l1 l2 l3 bc bs S = some o), R 85 [some (.ref l0), some (.ref l1), some (.int l2), some (.int l3)] [] Ga bc bs := by
  have h13033_J86 := n13033_J86 hR h 
  intro l0 l1 l2 l3  S Ga bc bs h2 ho
  unfold l_13033_J85 at ho
  refine us_iconstC hR dL_begins_85 (c := 0) (by decide) ?_
  exact h13033_J86 l0 l1 l2 l3 0  S Ga _ _ h2 ho
set_option maxHeartbeats 2000000 in
set_option maxRecDepth 8000 in
theorem n13033_J33 {d : Nat} {P : ab_Pq} {X : ab_Xq} {o : Lx × Int32} {R : ab_K} (hR : ab_Cl (d + 916) (ab_Gam (d + 916)) (mCi i13033) i13033 0 (fun _ => 0) P X R) (h : ∀ G1, (o.2 = 0 ∨ o.2 = 1) → LRep G1 o.1 → P G1 (some (.int o.2))) : ∀ (l0 : Nat) (l1 : Nat) (l2 : Int32) (k0 : Int32)  (S : Lx) (Ga : ab_G) (bc bs : Nat) (h2 : LRep Ga S) (ho : l_13033_J33 l0 l1 l2 k0 bc bs S = some o), R 33 [some (.ref l0), some (.ref l1), some (.int l2), none] [.int k0] Ga bc bs := by
  have h13033_J139 := n13033_J139 hR h 
  have h13033_J138 := n13033_J138 hR h 
  have h13033_J86 := n13033_J86 hR h 
  have h13033_J85 := n13033_J85 hR h 
  intro l0 l1 l2 k0  S Ga bc bs h2 ho
  unfold l_13033_J33 at ho
  refine us_istore_n hR dL_begins_33 (Nat.le_of_ble_eq_true rfl) ?_
  refine us_aload_n hR dL_begins_34 rfl ?_
  refine us_iconstC hR dL_begins_35 (c := 3) (by decide) ?_
  refine us_iload_n hR dL_begins_36 rfl ?_
  refine us_iconstC hR dL_begins_37 (c := 3) (by decide) ?_
  refine us_callS0 hR dL_begins_38 (y := 13001) (by decide +kernel) (by decide) (J := i13001) rfl rfl rfl rfl (rest := _) (Nat.le_of_ble_eq_true rfl) rfl rfl ?_
  obtain ⟨r6, hr6⟩ := bP_ex ho
  replace ho := bP_go ho hr6
  refine sh_13001 h2.1 hr6 ?_
  have hg := gd_c ho
  rw [gd_e hg] at ho
  refine ul_iastore h2 hg hR dL_begins_41 (fun G7 S7 hs7 h27 => ?_)
  rw [← hs7, bS_eq] at ho
  refine us_aload_n hR dL_begins_42 rfl ?_
  refine us_iconstC hR dL_begins_43 (c := 3) (by decide) ?_
  have hg := gd_c ho
  rw [gd_e hg] at ho
  refine ul_iaload h27 hg hR dL_begins_44 ?_
  refine us_iconstC hR dL_begins_45 (c := 1) (by decide) ?_
  refine us_icmp_ne hR dL_begins_46 90 (by decide) (fun c8 => ?_) (fun c8 => ?_)
  · rw [if_neg c8] at ho
    refine us_aload_n hR dL_begins_90 rfl ?_
    refine us_iconstC hR dL_begins_91 (c := 3) (by decide) ?_
    refine us_iconstC hR dL_begins_92 (c := 3) (by decide) ?_
    have hg := gd_c ho
    rw [gd_e hg] at ho
    refine ul_iastore h27 hg hR dL_begins_93 (fun G9 S9 hs9 h29 => ?_)
    rw [← hs9, bS_eq] at ho
    refine us_iload_n hR dL_begins_94 rfl ?_
    refine us_if_eq hR dL_begins_95 138 (by decide) (fun c10 => ?_) (fun c10 => ?_)
    · rw [if_pos c10] at ho
      exact h13033_J138 l0 l1 l2 k0  S9 G9 _ _ h29 ho
    · rw [if_neg c10] at ho
      refine us_aload_n hR dL_begins_98 rfl ?_
      refine us_ldc2_w hR dL_begins_99 (v := 2988182771855680868) (by decide +kernel) ?_
      have hg := gd_c ho
      rw [gd_e hg] at ho
      have hme := hg
      have hb := gd_c ho
      rw [gd_e hb] at ho
      refine us_callSc 1 6 hR dL_begins_102 (y := 13002) (by decide +kernel) (by decide) (J := i13002) rfl rfl rfl rfl (rest := _) (Nat.le_of_ble_eq_true rfl) rfl rfl hb.1 hb.2 ?_
      obtain ⟨q11, hs11⟩ := bO_ex ho
      obtain ⟨T11, r11⟩ := q11
      replace ho := bO_go ho hs11
      refine sh_13002 h29.1 hme hs11 (fun G11 h311 hF11 => ?_)
      have h211 := h29.cls h311 hF11
      obtain ⟨S11, hS11⟩ : ∃ Sz, Sz = lT S9 T11 := ⟨_, rfl⟩
      rw [bS_eq, ← hS11] at ho
      rw [← hS11] at h211
      refine us_bipushC hR dL_begins_105 (c := 8) (by decide) ?_
      refine us_icmp_ne hR dL_begins_107 138 (by decide) (fun c12 => ?_) (fun c12 => ?_)
      · rw [if_neg c12] at ho
        exact h13033_J138 l0 l1 l2 k0  S11 G11 _ _ h211 ho
      · rw [if_pos c12] at ho
        refine us_aload_n hR dL_begins_110 rfl ?_
        refine us_ldc2_w hR dL_begins_111 (v := 2911149965011478907) (by decide +kernel) ?_
        have hg := gd_c ho
        rw [gd_e hg] at ho
        have hme := hg
        have hb := gd_c ho
        rw [gd_e hb] at ho
        refine us_callSc 1 6 hR dL_begins_114 (y := 13002) (by decide +kernel) (by decide) (J := i13002) rfl rfl rfl rfl (rest := _) (Nat.le_of_ble_eq_true rfl) rfl rfl hb.1 hb.2 ?_
        obtain ⟨q13, hs13⟩ := bO_ex ho
        obtain ⟨T13, r13⟩ := q13
        replace ho := bO_go ho hs13
        refine sh_13002 h211.1 hme hs13 (fun G13 h313 hF13 => ?_)
        have h213 := h211.cls h313 hF13
        obtain ⟨S13, hS13⟩ : ∃ Sz, Sz = lT S11 T13 := ⟨_, rfl⟩
        rw [bS_eq, ← hS13] at ho
        rw [← hS13] at h213
        refine us_bipushC hR dL_begins_117 (c := 16) (by decide) ?_
        refine us_icmp_ne hR dL_begins_119 138 (by decide) (fun c14 => ?_) (fun c14 => ?_)
        · rw [if_neg c14] at ho
          exact h13033_J138 l0 l1 l2 k0  S13 G13 _ _ h213 ho
        · rw [if_pos c14] at ho
          refine us_aload_n hR dL_begins_122 rfl ?_
          refine us_ldc2_w hR dL_begins_123 (v := 35322065136463224) (by decide +kernel) ?_
          have hg := gd_c ho
          rw [gd_e hg] at ho
          have hme := hg
          have hb := gd_c ho
          rw [gd_e hb] at ho
          refine us_callSc 1 6 hR dL_begins_126 (y := 13002) (by decide +kernel) (by decide) (J := i13002) rfl rfl rfl rfl (rest := _) (Nat.le_of_ble_eq_true rfl) rfl rfl hb.1 hb.2 ?_
          obtain ⟨q15, hs15⟩ := bO_ex ho
          obtain ⟨T15, r15⟩ := q15
          replace ho := bO_go ho hs15
          refine sh_13002 h213.1 hme hs15 (fun G15 h315 hF15 => ?_)
          have h215 := h213.cls h315 hF15
          obtain ⟨S15, hS15⟩ : ∃ Sz, Sz = lT S13 T15 := ⟨_, rfl⟩
          rw [bS_eq, ← hS15] at ho
          rw [← hS15] at h215
          refine us_bipushC hR dL_begins_129 (c := 23) (by decide) ?_
          refine us_icmp_ne hR dL_begins_131 138 (by decide) (fun c16 => ?_) (fun c16 => ?_)
          · rw [if_neg c16] at ho
            exact h13033_J138 l0 l1 l2 k0  S15 G15 _ _ h215 ho
          · rw [if_pos c16] at ho
            refine us_iconstC hR dL_begins_134 (c := 1) (by decide) ?_
            refine us_goto hR dL_begins_135 139 (by decide) ?_
            exact h13033_J139 l0 l1 l2 k0 1  S15 G15 _ _ h215 ho
  · rw [if_pos c8] at ho
    refine us_aload_n hR dL_begins_49 rfl ?_
    refine us_iconstC hR dL_begins_50 (c := 3) (by decide) ?_
    refine us_iconstC hR dL_begins_51 (c := 2) (by decide) ?_
    have hg := gd_c ho
    rw [gd_e hg] at ho
    refine ul_iastore h27 hg hR dL_begins_52 (fun G17 S17 hs17 h217 => ?_)
    rw [← hs17, bS_eq] at ho
    refine us_iload_n hR dL_begins_53 rfl ?_
    refine us_if_eq hR dL_begins_54 85 (by decide) (fun c18 => ?_) (fun c18 => ?_)
    · rw [if_pos c18] at ho
      exact h13033_J85 l0 l1 l2 k0  S17 G17 _ _ h217 ho
    · rw [if_neg c18] at ho
      refine us_aload_n hR dL_begins_57 rfl ?_
      refine us_ldc2_w hR dL_begins_58 (v := 2988182771855680868) (by decide +kernel) ?_
      have hg := gd_c ho
      rw [gd_e hg] at ho
      have hme := hg
      have hb := gd_c ho
      rw [gd_e hb] at ho
      refine us_callSc 1 6 hR dL_begins_61 (y := 13002) (by decide +kernel) (by decide) (J := i13002) rfl rfl rfl rfl (rest := _) (Nat.le_of_ble_eq_true rfl) rfl rfl hb.1 hb.2 ?_
      obtain ⟨q19, hs19⟩ := bO_ex ho
      obtain ⟨T19, r19⟩ := q19
      replace ho := bO_go ho hs19
      refine sh_13002 h217.1 hme hs19 (fun G19 h319 hF19 => ?_)
      have h219 := h217.cls h319 hF19
      obtain ⟨S19, hS19⟩ : ∃ Sz, Sz = lT S17 T19 := ⟨_, rfl⟩
      rw [bS_eq, ← hS19] at ho
      rw [← hS19] at h219
      refine us_bipushC hR dL_begins_64 (c := 8) (by decide) ?_
      refine us_icmp_ne hR dL_begins_66 85 (by decide) (fun c20 => ?_) (fun c20 => ?_)
      · rw [if_neg c20] at ho
        exact h13033_J85 l0 l1 l2 k0  S19 G19 _ _ h219 ho
      · rw [if_pos c20] at ho
        refine us_aload_n hR dL_begins_69 rfl ?_
        refine us_ldc2_w hR dL_begins_70 (v := 9023938359155060603) (by decide +kernel) ?_
        have hg := gd_c ho
        rw [gd_e hg] at ho
        have hme := hg
        have hb := gd_c ho
        rw [gd_e hb] at ho
        refine us_callSc 1 6 hR dL_begins_73 (y := 13002) (by decide +kernel) (by decide) (J := i13002) rfl rfl rfl rfl (rest := _) (Nat.le_of_ble_eq_true rfl) rfl rfl hb.1 hb.2 ?_
        obtain ⟨q21, hs21⟩ := bO_ex ho
        obtain ⟨T21, r21⟩ := q21
        replace ho := bO_go ho hs21
        refine sh_13002 h219.1 hme hs21 (fun G21 h321 hF21 => ?_)
        have h221 := h219.cls h321 hF21
        obtain ⟨S21, hS21⟩ : ∃ Sz, Sz = lT S19 T21 := ⟨_, rfl⟩
        rw [bS_eq, ← hS21] at ho
        rw [← hS21] at h221
        refine us_bipushC hR dL_begins_76 (c := 16) (by decide) ?_
        refine us_icmp_ne hR dL_begins_78 85 (by decide) (fun c22 => ?_) (fun c22 => ?_)
        · rw [if_neg c22] at ho
          exact h13033_J85 l0 l1 l2 k0  S21 G21 _ _ h221 ho
        · rw [if_pos c22] at ho
          refine us_iconstC hR dL_begins_81 (c := 1) (by decide) ?_
          refine us_goto hR dL_begins_82 86 (by decide) ?_
          exact h13033_J86 l0 l1 l2 k0 1  S21 G21 _ _ h221 ho
set_option maxHeartbeats 2000000 in
set_option maxRecDepth 8000 in
theorem n13033_J32 {d : Nat} {P : ab_Pq} {X : ab_Xq} {o : Lx × Int32} {R : ab_K} (hR : ab_Cl (d + 916) (ab_Gam (d + 916)) (mCi i13033) i13033 0 (fun _ => 0) P X R) (h : ∀ G1, (o.2 = 0 ∨ o.2 = 1) → LRep G1 o.1 → P G1 (some (.int o.2))) : ∀ (l0 : Nat) (l1 : Nat) (l2 : Int32)  (S : Lx) (Ga : ab_G) (bc bs : Nat) (h2 : LRep Ga S) (ho : l_13033_J32 l0 l1 l2 bc bs S = some o), R 32 [some (.ref l0), some (.ref l1), some (.int l2), none] [] Ga bc bs := by
  have h13033_J33 := n13033_J33 hR h 
  intro l0 l1 l2  S Ga bc bs h2 ho
  unfold l_13033_J32 at ho
  refine us_iconstC hR dL_begins_32 (c := 0) (by decide) ?_
  exact h13033_J33 l0 l1 l2 0  S Ga _ _ h2 ho
set_option maxHeartbeats 2000000 in
set_option maxRecDepth 8000 in
theorem sl_13033 {d : Nat} {G : ab_G} {S : Lx} {P : ab_Pq} {X : ab_Xq} (h2 : LRep G S) {x0 : Nat} {x1 : Nat} {x2 : Int32} {o : Lx × Int32} (ho : l_13033 x0 x1 x2 S = some o) (h : ∀ G1, (o.2 = 0 ∨ o.2 = 1) → LRep G1 o.1 → P G1 (some (.int o.2))) : ab_Gam (d + 917) 13033 [.ref x0, .ref x1, .int x2] G P X := by
  unfold l_13033 at ho
  refine ab_enter (I := i13033) rfl (Nat.le_of_ble_eq_true rfl) (fun R hR => ?_)
  have h13033_J33 := n13033_J33 hR h 
  have h13033_J32 := n13033_J32 hR h 
  change R _ [some (.ref x0), some (.ref x1), some (.int x2), none] _ _ 180 15000
  refine us_aload_n hR dL_begins_0 rfl ?_
  have hg := gd_c ho
  rw [gd_e hg] at ho
  refine us_callV0 hR dL_begins_1 (y := 11002) (by decide +kernel) (by decide) (J := i11002) rfl rfl rfl rfl (H_kind1 h2.1 hg (by decide)) rfl (Nat.le_of_ble_eq_true rfl) rfl rfl ?_
  obtain ⟨q23, hs23⟩ := bO_ex ho
  obtain ⟨T23, r23⟩ := q23
  replace ho := bO_go ho hs23
  refine sh_11002 h2.1 hs23 (fun G23 h323 hF23 => ?_)
  have h223 := h2.cls h323 hF23
  obtain ⟨S23, hS23⟩ : ∃ Sz, Sz = lT S T23 := ⟨_, rfl⟩
  rw [bS_eq, ← hS23] at ho
  rw [← hS23] at h223
  refine us_if_lt hR dL_begins_4 32 (by decide) (fun c24 => ?_) (fun c24 => ?_)
  · rw [if_pos c24] at ho
    exact h13033_J32 x0 x1 x2  S23 G23 _ _ h223 ho
  · rw [if_neg c24] at ho
    change R _ [some (.ref x0), some (.ref x1), some (.int x2), none] _ _ 180 15000
    refine us_aload_n hR dL_begins_7 rfl ?_
    have hg := gd_c ho
    rw [gd_e hg] at ho
    refine us_callV0 hR dL_begins_8 (y := 11004) (by decide +kernel) (by decide) (J := i11004) rfl rfl rfl rfl (H_kind1 h223.1 hg (by decide)) rfl (Nat.le_of_ble_eq_true rfl) rfl rfl ?_
    obtain ⟨r25, hr25⟩ := bP_ex ho
    replace ho := bP_go ho hr25
    refine sh_11004 h223.1 hr25 ?_
    refine us_if_ne hR dL_begins_11 32 (by decide) (fun c26 => ?_) (fun c26 => ?_)
    · rw [if_neg c26] at ho
      exact h13033_J32 x0 x1 x2  S23 G23 _ _ h223 ho
    · rw [if_pos c26] at ho
      change R _ [some (.ref x0), some (.ref x1), some (.int x2), none] _ _ 180 15000
      refine us_aload_n hR dL_begins_14 rfl ?_
      have hg := gd_c ho
      rw [gd_e hg] at ho
      refine us_callVc 40 3700 hR dL_begins_15 (y := 11006) (by decide +kernel) (by decide) (J := i11006) rfl rfl rfl rfl (H_kind1 h223.1 hg (by decide)) rfl (Nat.le_of_ble_eq_true rfl) rfl rfl (Nat.le_of_ble_eq_true rfl) (Nat.le_of_ble_eq_true rfl) ?_
      obtain ⟨q27, hs27⟩ := bO_ex ho
      obtain ⟨T27, r27⟩ := q27
      replace ho := bO_go ho hs27
      refine sh_11006 h223.1 hs27 (fun G27 h327 hF27 => ?_)
      have h227 := h223.cls h327 hF27
      obtain ⟨S27, hS27⟩ : ∃ Sz, Sz = lT S23 T27 := ⟨_, rfl⟩
      rw [bS_eq, ← hS27] at ho
      rw [← hS27] at h227
      change R _ [some (.ref x0), some (.ref x1), some (.int x2), none] _ _ 140 11300
      refine us_if_ne hR dL_begins_18 32 (by decide) (fun c28 => ?_) (fun c28 => ?_)
      · rw [if_neg c28] at ho
        exact h13033_J32 x0 x1 x2  S27 G27 _ _ h227 ho
      · rw [if_pos c28] at ho
        change R _ [some (.ref x0), some (.ref x1), some (.int x2), none] _ _ 140 11300
        refine us_aload_n hR dL_begins_21 rfl ?_
        have hg := gd_c ho
        rw [gd_e hg] at ho
        have hme := hg
        refine us_callSc 41 3706 hR dL_begins_22 (y := 13005) (by decide +kernel) (by decide) (J := i13005) rfl rfl rfl rfl (rest := _) (Nat.le_of_ble_eq_true rfl) rfl rfl (Nat.le_of_ble_eq_true rfl) (Nat.le_of_ble_eq_true rfl) ?_
        obtain ⟨q29, hs29⟩ := bO_ex ho
        obtain ⟨T29, r29⟩ := q29
        replace ho := bO_go ho hs29
        refine sh_13005 h227.1 hme hs29 (fun G29 h329 hF29 => ?_)
        have h229 := h227.cls h329 hF29
        obtain ⟨S29, hS29⟩ : ∃ Sz, Sz = lT S27 T29 := ⟨_, rfl⟩
        rw [bS_eq, ← hS29] at ho
        rw [← hS29] at h229
        change R _ [some (.ref x0), some (.ref x1), some (.int x2), none] _ _ 99 7594
        refine us_if_ne hR dL_begins_25 32 (by decide) (fun c30 => ?_) (fun c30 => ?_)
        · rw [if_neg c30] at ho
          exact h13033_J32 x0 x1 x2  S29 G29 _ _ h229 ho
        · rw [if_pos c30] at ho
          change R _ [some (.ref x0), some (.ref x1), some (.int x2), none] _ _ 99 7594
          refine us_iconstC hR dL_begins_28 (c := 1) (by decide) ?_
          refine us_goto hR dL_begins_29 33 (by decide) ?_
          exact h13033_J33 x0 x1 x2 1  S29 G29 _ _ h229 ho
set_option maxHeartbeats 2000000 in
set_option maxRecDepth 8000 in
theorem n13034_J66 {d : Nat} {P : ab_Pq} {X : ab_Xq} {o : Lx × Int32} {R : ab_K} (hR : ab_Cl (d + 916) (ab_Gam (d + 916)) (mCi i13034) i13034 0 (fun _ => 0) P X R) (h : ∀ G1, (o.2 = 0 ∨ o.2 = 1) → LRep G1 o.1 → P G1 (some (.int o.2))) : ∀ (l0 : Nat) (l1 : Nat) (l2 : Int32) (l3 : Int32) (l4 : Int32) (l5 : Int32) (w6 : Option Value) (S : Lx) (Ga : ab_G) (bc bs : Nat) (h2 : LRep Ga S) (ho : l_13034_J66 l0 l1 l2 l3 l4 l5 bc bs S = some o), R 66 [some (.ref l0), some (.ref l1), some (.int l2), some (.int l3), some (.int l4), some (.int l5), w6] [] Ga bc bs := by
  intro l0 l1 l2 l3 l4 l5 w6 S Ga bc bs h2 ho
  unfold l_13034_J66 at ho
  refine us_aload_n hR dL_goesOn_66 rfl ?_
  have hg := gd_c ho
  rw [gd_e hg] at ho
  have hb := gd_c ho
  rw [gd_e hb] at ho
  refine us_callVc 40 3700 hR dL_goesOn_67 (y := 11006) (by decide +kernel) (by decide) (J := i11006) rfl rfl rfl rfl (H_kind1 h2.1 hg (by decide)) rfl (Nat.le_of_ble_eq_true rfl) rfl rfl hb.1 hb.2 ?_
  obtain ⟨q1, hs1⟩ := bO_ex ho
  obtain ⟨T1, r1⟩ := q1
  replace ho := bO_go ho hs1
  refine sh_11006 h2.1 hs1 (fun G1 h31 hF1 => ?_)
  have h21 := h2.cls h31 hF1
  obtain ⟨S1, hS1⟩ : ∃ Sz, Sz = lT S T1 := ⟨_, rfl⟩
  rw [bS_eq, ← hS1] at ho
  rw [← hS1] at h21
  refine us_if_ne hR dL_goesOn_70 95 (by decide) (fun c2 => ?_) (fun c2 => ?_)
  · rw [if_neg c2] at ho
    refine us_iconstC hR dL_goesOn_95 (c := 0) (by decide) ?_
    refine us_iret hR dL_goesOn_96 rfl (nar01 (Or.inl rfl)) ?_
    cases ho
    exact h _ (Or.inl rfl) h21
  · rw [if_pos c2] at ho
    refine us_aload_n hR dL_goesOn_73 rfl ?_
    have hg := gd_c ho
    rw [gd_e hg] at ho
    have hb := gd_c ho
    rw [gd_e hb] at ho
    refine us_callVc 40 3700 hR dL_goesOn_74 (y := 11007) (by decide +kernel) (by decide) (J := i11007) rfl rfl rfl rfl (H_kind1 h21.1 hg (by decide)) rfl (Nat.le_of_ble_eq_true rfl) rfl rfl hb.1 hb.2 ?_
    obtain ⟨q3, hs3⟩ := bO_ex ho
    obtain ⟨T3, r3⟩ := q3
    replace ho := bO_go ho hs3
    refine sh_11007 h21.1 hs3 (fun G3 h33 hF3 => ?_)
    have h23 := h21.cls h33 hF3
    obtain ⟨S3, hS3⟩ : ∃ Sz, Sz = lT S1 T3 := ⟨_, rfl⟩
    rw [bS_eq, ← hS3] at ho
    rw [← hS3] at h23
    refine us_iconstC hR dL_goesOn_77 (c := (-1)) (by decide) ?_
    refine us_icmp_ne hR dL_goesOn_78 95 (by decide) (fun c4 => ?_) (fun c4 => ?_)
    · rw [if_neg c4] at ho
      refine us_iconstC hR dL_goesOn_95 (c := 0) (by decide) ?_
      refine us_iret hR dL_goesOn_96 rfl (nar01 (Or.inl rfl)) ?_
      cases ho
      exact h _ (Or.inl rfl) h23
    · rw [if_pos c4] at ho
      refine us_aload_n hR dL_goesOn_81 rfl ?_
      have hg := gd_c ho
      rw [gd_e hg] at ho
      have hme := hg
      have hb := gd_c ho
      rw [gd_e hb] at ho
      refine us_callSc 41 3706 hR dL_goesOn_82 (y := 13005) (by decide +kernel) (by decide) (J := i13005) rfl rfl rfl rfl (rest := _) (Nat.le_of_ble_eq_true rfl) rfl rfl hb.1 hb.2 ?_
      obtain ⟨q5, hs5⟩ := bO_ex ho
      obtain ⟨T5, r5⟩ := q5
      replace ho := bO_go ho hs5
      refine sh_13005 h23.1 hme hs5 (fun G5 h35 hF5 => ?_)
      have h25 := h23.cls h35 hF5
      obtain ⟨S5, hS5⟩ : ∃ Sz, Sz = lT S3 T5 := ⟨_, rfl⟩
      rw [bS_eq, ← hS5] at ho
      rw [← hS5] at h25
      refine us_aload_n hR dL_goesOn_85 rfl ?_
      refine us_iconstC hR dL_goesOn_86 (c := 3) (by decide) ?_
      have hg := gd_c ho
      rw [gd_e hg] at ho
      refine ul_iaload h25 hg hR dL_goesOn_87 ?_
      refine us_icmp_ne hR dL_goesOn_88 95 (by decide) (fun c6 => ?_) (fun c6 => ?_)
      · rw [if_neg c6] at ho
        refine us_iconstC hR dL_goesOn_95 (c := 0) (by decide) ?_
        refine us_iret hR dL_goesOn_96 rfl (nar01 (Or.inl rfl)) ?_
        cases ho
        exact h _ (Or.inl rfl) h25
      · rw [if_pos c6] at ho
        refine us_iconstC hR dL_goesOn_91 (c := 1) (by decide) ?_
        refine us_goto hR dL_goesOn_92 96 (by decide) ?_
        refine us_iret hR dL_goesOn_96 rfl (nar01 (Or.inr rfl)) ?_
        cases ho
        exact h _ (Or.inr rfl) h25
set_option maxHeartbeats 2000000 in
set_option maxRecDepth 8000 in
theorem n13034_L12 {d : Nat} {P : ab_Pq} {X : ab_Xq} {o : Lx × Int32} {R : ab_K} (hR : ab_Cl (d + 916) (ab_Gam (d + 916)) (mCi i13034) i13034 0 (fun _ => 0) P X R) (h : ∀ G1, (o.2 = 0 ∨ o.2 = 1) → LRep G1 o.1 → P G1 (some (.int o.2))) : ∀ (n : Nat) (l0 : Nat) (l1 : Nat) (l2 : Int32) (l3 : Int32) (l4 : Int32) (l5 : Int32) (w6 : Option Value) (S : Lx) (Ga : ab_G) (bc bs : Nat) (h2 : LRep Ga S) (ho : l_13034_L12 n l0 l1 l2 l3 l4 l5 bc bs S = some o), R 12 [some (.ref l0), some (.ref l1), some (.int l2), some (.int l3), some (.int l4), some (.int l5), w6] [] Ga bc bs := by
  have h13034_J66 := n13034_J66 hR h 
  intro n
  induction n with
  | zero => intro l0 l1 l2 l3 l4 l5 w6 S Ga bc bs h2 ho; exact absurd ho (by rw [l_13034_L12]; intro hc; cases hc)
  | succ n12 ih12 =>
    intro l0 l1 l2 l3 l4 l5 w6 S Ga bc bs h2 ho
    rw [l_13034_L12] at ho
    refine us_iload hR dL_goesOn_12 rfl ?_
    refine us_iload hR dL_goesOn_14 rfl ?_
    refine us_icmp_ge hR dL_goesOn_16 66 (by decide) (fun c7 => ?_) (fun c7 => ?_)
    · rw [if_pos c7] at ho
      exact h13034_J66 l0 l1 l2 l3 l4 l5 _ S Ga _ _ h2 ho
    · rw [if_neg c7] at ho
      refine us_aload_n hR dL_goesOn_19 rfl ?_
      have hg := gd_c ho
      rw [gd_e hg] at ho
      refine us_callV0 hR dL_goesOn_20 (y := 11004) (by decide +kernel) (by decide) (J := i11004) rfl rfl rfl rfl (H_kind1 h2.1 hg (by decide)) rfl (Nat.le_of_ble_eq_true rfl) rfl rfl ?_
      obtain ⟨r8, hr8⟩ := bP_ex ho
      replace ho := bP_go ho hr8
      refine sh_11004 h2.1 hr8 ?_
      refine us_sipushC hR dL_goesOn_23 (c := 240) (by decide) ?_
      refine us_icmp_ge hR dL_goesOn_26 66 (by decide) (fun c9 => ?_) (fun c9 => ?_)
      · rw [if_pos c9] at ho
        exact h13034_J66 l0 l1 l2 l3 l4 l5 _ S Ga _ _ h2 ho
      · rw [if_neg c9] at ho
        refine us_aload_n hR dL_goesOn_29 rfl ?_
        refine us_iload_n hR dL_goesOn_30 rfl ?_
        refine us_iconstC hR dL_goesOn_31 (c := 2) (by decide) ?_
        refine us_iload hR dL_goesOn_32 rfl ?_
        refine us_iadd hR dL_goesOn_34 ?_
        refine us_ishr hR dL_goesOn_35 ?_
        refine us_iload_n hR dL_goesOn_36 rfl ?_
        refine us_iload hR dL_goesOn_37 rfl ?_
        refine us_ishr hR dL_goesOn_39 ?_
        have hb := gd_c ho
        rw [gd_e hb] at ho
        refine us_callSc 96 576 hR dL_goesOn_40 (y := 13032) (by decide +kernel) (by decide) (J := i13032) rfl rfl rfl rfl (rest := _) (Nat.le_of_ble_eq_true rfl) rfl rfl hb.1 hb.2 ?_
        obtain ⟨q10, hs10⟩ := bO_ex ho
        obtain ⟨T10, r10⟩ := q10
        replace ho := bO_go ho hs10
        refine sh_13032 h2.1 hs10 (fun G10 h310 hF10 => ?_)
        have h210 := h2.cls h310 hF10
        obtain ⟨S10, hS10⟩ : ∃ Sz, Sz = lT S T10 := ⟨_, rfl⟩
        rw [bS_eq, ← hS10] at ho
        rw [← hS10] at h210
        refine us_istore hR dL_goesOn_43 (Nat.le_of_ble_eq_true rfl) ?_
        refine us_aload_n hR dL_goesOn_45 rfl ?_
        refine us_iconstC hR dL_goesOn_46 (c := 3) (by decide) ?_
        refine us_dup2 hR dL_goesOn_47 rfl rfl ?_
        have hg := gd_c ho
        rw [gd_e hg] at ho
        refine ul_iaload h210 hg hR dL_goesOn_48 ?_
        refine us_iload hR dL_goesOn_49 rfl ?_
        refine us_iadd hR dL_goesOn_51 ?_
        have hg := gd_c ho
        rw [gd_e hg] at ho
        refine ul_iastore h210 hg hR dL_goesOn_52 (fun G11 S11 hs11 h211 => ?_)
        rw [← hs11, bS_eq] at ho
        refine us_iload hR dL_goesOn_53 rfl ?_
        refine us_if_ge hR dL_goesOn_55 60 (by decide) (fun c12 => ?_) (fun c12 => ?_)
        · rw [if_pos c12] at ho
          refine us_iincC hR dL_goesOn_60 rfl (Nat.le_of_ble_eq_true rfl) (c := 1) (by decide) ?_
          refine us_goto hR dL_goesOn_63 12 (by decide) ?_
          exact ih12 l0 l1 l2 l3 l4 (l5 + 1) _ S11 G11 _ _ h211 ho
        · rw [if_neg c12] at ho
          refine us_iconstC hR dL_goesOn_58 (c := 0) (by decide) ?_
          refine us_iret hR dL_goesOn_59 rfl (nar01 (Or.inl rfl)) ?_
          cases ho
          exact h _ (Or.inl rfl) h211
set_option maxHeartbeats 2000000 in
set_option maxRecDepth 8000 in
theorem sl_13034 {d : Nat} {G : ab_G} {S : Lx} {P : ab_Pq} {X : ab_Xq} (h2 : LRep G S) {x0 : Nat} {x1 : Nat} {x2 : Int32} {x3 : Int32} {o : Lx × Int32} (ho : l_13034 x0 x1 x2 x3 S = some o) (h : ∀ G1, (o.2 = 0 ∨ o.2 = 1) → LRep G1 o.1 → P G1 (some (.int o.2))) : ab_Gam (d + 917) 13034 [.ref x0, .ref x1, .int x2, .int x3] G P X := by
  unfold l_13034 at ho
  refine ab_enter (I := i13034) rfl (Nat.le_of_ble_eq_true rfl) (fun R hR => ?_)
  have h13034_L12 := n13034_L12 hR h 
  change R _ [some (.ref x0), some (.ref x1), some (.int x2), some (.int x3), none, none, none] _ _ 460 14000
  refine us_iconstC hR dL_goesOn_0 (c := 1) (by decide) ?_
  refine us_iload_n hR dL_goesOn_1 rfl ?_
  refine us_iconstC hR dL_goesOn_2 (c := 3) (by decide) ?_
  refine us_callS0 hR dL_goesOn_3 (y := 13001) (by decide +kernel) (by decide) (J := i13001) rfl rfl rfl rfl (rest := _) (Nat.le_of_ble_eq_true rfl) rfl rfl ?_
  obtain ⟨r13, hr13⟩ := bP_ex ho
  replace ho := bP_go ho hr13
  refine sh_13001 h2.1 hr13 ?_
  refine us_iadd hR dL_goesOn_6 ?_
  refine us_istore hR dL_goesOn_7 (Nat.le_of_ble_eq_true rfl) ?_
  refine us_iconstC hR dL_goesOn_9 (c := 0) (by decide) ?_
  refine us_istore hR dL_goesOn_10 (Nat.le_of_ble_eq_true rfl) ?_
  exact h13034_L12 _ x0 x1 x2 x3 (1 + r13) 0 _ S G _ _ h2 ho
end
