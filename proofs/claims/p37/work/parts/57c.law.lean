/-! the law: how it begins a draft, goes on, tries and spoils it -/
noncomputable section
def l_13033_J140 (l0 : Nat) (l1 : Nat) (l2 : Int32) (l3 : Int32) (bc bs : Nat) (S : Lx) : Option (Lx × Int32) :=
  if l3 = 0 then
    some (S, 0)
  else
    gd (tK S.1 l0 = 12) <|
    gd ((40 : Nat) ≤ bc ∧ 3700 ≤ bs) <|
    bO (h_11006 l0 S.1) fun T2 r2 => bS (lT S T2) fun S2 =>
    if r2 = 0 then
      gd (tK S2.1 l0 = 12) <|
      gd ((41 : Nat) ≤ (bc - 40) ∧ 3706 ≤ (bs - 3700)) <|
      bO (h_13005 l0 S2.1) fun T4 r4 => bS (lT S2 T4) fun S4 =>
      gd (vi 3 (S4.2 l1).length) <|
      if r4 = (xg (S4.2 l1) 3) then
        some (S4, 1)
      else
        some (S4, 0)
    else
      some (S2, 0)
def l_13033_J139 (l0 : Nat) (l1 : Nat) (l2 : Int32) (l3 : Int32) (k0 : Int32) (bc bs : Nat) (S : Lx) : Option (Lx × Int32) :=
  l_13033_J140 l0 l1 l2 k0 bc bs S
def l_13033_J138 (l0 : Nat) (l1 : Nat) (l2 : Int32) (l3 : Int32) (bc bs : Nat) (S : Lx) : Option (Lx × Int32) :=
  l_13033_J139 l0 l1 l2 l3 0 bc bs S
def l_13033_J86 (l0 : Nat) (l1 : Nat) (l2 : Int32) (l3 : Int32) (k0 : Int32) (bc bs : Nat) (S : Lx) : Option (Lx × Int32) :=
  l_13033_J140 l0 l1 l2 k0 bc bs S
def l_13033_J85 (l0 : Nat) (l1 : Nat) (l2 : Int32) (l3 : Int32) (bc bs : Nat) (S : Lx) : Option (Lx × Int32) :=
  l_13033_J86 l0 l1 l2 l3 0 bc bs S
def l_13033_J33 (l0 : Nat) (l1 : Nat) (l2 : Int32) (l3 : Int32) (k0 : Int32) (bc bs : Nat) (S : Lx) : Option (Lx × Int32) :=
  bP (h_13001 l2 3 S.1) fun r6 =>
  gd (vi 3 (S.2 l1).length) <|
  bS (lSet S l1 3 r6) fun S7 =>
  gd (vi 3 (S7.2 l1).length) <|
  if (xg (S7.2 l1) 3) = 1 then
    gd (vi 3 (S7.2 l1).length) <|
    bS (lSet S7 l1 3 2) fun S17 =>
    if k0 = 0 then
      l_13033_J85 l0 l1 l2 k0 bc bs S17
    else
      gd (tK S17.1 l0 = 12) <|
      gd ((1 : Nat) ≤ bc ∧ 6 ≤ bs) <|
      bO (h_13002 l0 2988182771855680868 S17.1) fun T19 r19 => bS (lT S17 T19) fun S19 =>
      if r19 = 8 then
        gd (tK S19.1 l0 = 12) <|
        gd ((1 : Nat) ≤ (bc - 1) ∧ 6 ≤ (bs - 6)) <|
        bO (h_13002 l0 9023938359155060603 S19.1) fun T21 r21 => bS (lT S19 T21) fun S21 =>
        if r21 = 16 then
          l_13033_J86 l0 l1 l2 k0 1 ((bc - 1) - 1) ((bs - 6) - 6) S21
        else
          l_13033_J85 l0 l1 l2 k0 ((bc - 1) - 1) ((bs - 6) - 6) S21
      else
        l_13033_J85 l0 l1 l2 k0 (bc - 1) (bs - 6) S19
  else
    gd (vi 3 (S7.2 l1).length) <|
    bS (lSet S7 l1 3 3) fun S9 =>
    if k0 = 0 then
      l_13033_J138 l0 l1 l2 k0 bc bs S9
    else
      gd (tK S9.1 l0 = 12) <|
      gd ((1 : Nat) ≤ bc ∧ 6 ≤ bs) <|
      bO (h_13002 l0 2988182771855680868 S9.1) fun T11 r11 => bS (lT S9 T11) fun S11 =>
      if r11 = 8 then
        gd (tK S11.1 l0 = 12) <|
        gd ((1 : Nat) ≤ (bc - 1) ∧ 6 ≤ (bs - 6)) <|
        bO (h_13002 l0 2911149965011478907 S11.1) fun T13 r13 => bS (lT S11 T13) fun S13 =>
        if r13 = 16 then
          gd (tK S13.1 l0 = 12) <|
          gd ((1 : Nat) ≤ ((bc - 1) - 1) ∧ 6 ≤ ((bs - 6) - 6)) <|
          bO (h_13002 l0 35322065136463224 S13.1) fun T15 r15 => bS (lT S13 T15) fun S15 =>
          if r15 = 23 then
            l_13033_J139 l0 l1 l2 k0 1 (((bc - 1) - 1) - 1) (((bs - 6) - 6) - 6) S15
          else
            l_13033_J138 l0 l1 l2 k0 (((bc - 1) - 1) - 1) (((bs - 6) - 6) - 6) S15
        else
          l_13033_J138 l0 l1 l2 k0 ((bc - 1) - 1) ((bs - 6) - 6) S13
      else
        l_13033_J138 l0 l1 l2 k0 (bc - 1) (bs - 6) S11
def l_13033_J32 (l0 : Nat) (l1 : Nat) (l2 : Int32) (l3 : Int32) (bc bs : Nat) (S : Lx) : Option (Lx × Int32) :=
  l_13033_J33 l0 l1 l2 l3 0 bc bs S
def l_13033 (x0 : Nat) (x1 : Nat) (x2 : Int32) (x3 : Int32) (S : Lx) : Option (Lx × Int32) :=
  gd (tK S.1 x0 = 12) <|
  bO (h_11002 x0 S.1) fun T23 r23 => bS (lT S T23) fun S23 =>
  if r23 < 0 then
    l_13033_J32 x0 x1 x2 x3 180 15000 S23
  else
    gd (tK S23.1 x0 = 12) <|
    bP (h_11004 x0 S23.1) fun r25 =>
    if r25 = 0 then
      gd (tK S23.1 x0 = 12) <|
      bO (h_11006 x0 S23.1) fun T27 r27 => bS (lT S23 T27) fun S27 =>
      if r27 = 0 then
        gd (tK S27.1 x0 = 12) <|
        bO (h_13005 x0 S27.1) fun T29 r29 => bS (lT S27 T29) fun S29 =>
        if r29 = 0 then
          l_13033_J33 x0 x1 x2 x3 1 99 7594 S29
        else
          l_13033_J32 x0 x1 x2 x3 99 7594 S29
      else
        l_13033_J32 x0 x1 x2 x3 140 11300 S27
    else
      l_13033_J32 x0 x1 x2 x3 180 15000 S23
set_option maxRecDepth 8000 in
theorem sl_13033 {d : Nat} {G : ab_G} {S : Lx} {P : ab_Pq} {X : ab_Xq} (h2 : LRep G S) {x0 : Nat} {x1 : Nat} {x2 : Int32} {x3 : Int32} {o : Lx × Int32} (ho : l_13033 x0 x1 x2 x3 S = some o) (h : ∀ G1, (o.2 = 0 ∨ o.2 = 1) → LRep G1 o.1 → P G1 (some (.int o.2))) : ab_Gam (d + 917) 13033 [.ref x0, .ref x1, .int x2, .int x3] G P X := by
  unfold l_13033 at ho
  refine ab_enter (I := i13033) rfl (Nat.le_of_ble_eq_true rfl) (fun R hR => ?_)
  have h13033_J140 : ∀ (l0 : Nat) (l1 : Nat) (l2 : Int32) (l3 : Int32)  (S : Lx) (Ga : ab_G) (bc bs : Nat) (h2 : LRep Ga S) (ho : l_13033_J140 l0 l1 l2 l3 bc bs S = some o), R 140 [some (.ref l0), some (.ref l1), some (.int l2), some (.int l3)] [] Ga bc bs := by
    intro l0 l1 l2 l3  S Ga bc bs h2 ho
    unfold l_13033_J140 at ho
    refine us_iload_n hR dL_begins_140 rfl ?_
    refine us_if_eq hR dL_begins_141 165 (by decide) (fun c1 => ?_) (fun c1 => ?_)
    · rw [if_pos c1] at ho
      refine us_iconstC hR dL_begins_165 (c := 0) (by decide) ?_
      refine us_iret hR dL_begins_166 rfl (nar01 (Or.inl rfl)) ?_
      cases ho
      exact h _ (Or.inl rfl) h2
    · rw [if_neg c1] at ho
      refine us_aload_n hR dL_begins_144 rfl ?_
      have hg := gd_c ho
      rw [gd_e hg] at ho
      have hb := gd_c ho
      rw [gd_e hb] at ho
      refine us_callV hR dL_begins_145 (y := 11006) (by decide +kernel) (by decide) (J := i11006) rfl rfl rfl rfl (H_kind1 h2.1 hg (by decide)) rfl (Nat.le_of_ble_eq_true rfl) hb.1 hb.2 ?_
      obtain ⟨q2, hs2⟩ := bO_ex ho
      obtain ⟨T2, r2⟩ := q2
      replace ho := bO_go ho hs2
      refine sh_11006 h2.1 hs2 (fun G2 h32 hF2 => ?_)
      have h22 := h2.cls h32 hF2
      obtain ⟨S2, hS2⟩ : ∃ Sz, Sz = lT S T2 := ⟨_, rfl⟩
      rw [bS_eq, ← hS2] at ho
      rw [← hS2] at h22
      refine us_if_ne hR dL_begins_148 165 (by decide) (fun c3 => ?_) (fun c3 => ?_)
      · rw [if_neg c3] at ho
        refine us_iconstC hR dL_begins_165 (c := 0) (by decide) ?_
        refine us_iret hR dL_begins_166 rfl (nar01 (Or.inl rfl)) ?_
        cases ho
        exact h _ (Or.inl rfl) h22
      · rw [if_pos c3] at ho
        refine us_aload_n hR dL_begins_151 rfl ?_
        have hg := gd_c ho
        rw [gd_e hg] at ho
        have hme := hg
        have hb := gd_c ho
        rw [gd_e hb] at ho
        refine us_callS hR dL_begins_152 (y := 13005) (by decide +kernel) (by decide) (J := i13005) rfl rfl rfl rfl (rest := _) (Nat.le_of_ble_eq_true rfl) hb.1 hb.2 ?_
        obtain ⟨q4, hs4⟩ := bO_ex ho
        obtain ⟨T4, r4⟩ := q4
        replace ho := bO_go ho hs4
        refine sh_13005 h22.1 hme hs4 (fun G4 h34 hF4 => ?_)
        have h24 := h22.cls h34 hF4
        obtain ⟨S4, hS4⟩ : ∃ Sz, Sz = lT S2 T4 := ⟨_, rfl⟩
        rw [bS_eq, ← hS4] at ho
        rw [← hS4] at h24
        refine us_aload_n hR dL_begins_155 rfl ?_
        refine us_iconstC hR dL_begins_156 (c := 3) (by decide) ?_
        have hg := gd_c ho
        rw [gd_e hg] at ho
        refine ul_iaload h24 hg hR dL_begins_157 ?_
        refine us_icmp_ne hR dL_begins_158 165 (by decide) (fun c5 => ?_) (fun c5 => ?_)
        · rw [if_neg c5] at ho
          refine us_iconstC hR dL_begins_165 (c := 0) (by decide) ?_
          refine us_iret hR dL_begins_166 rfl (nar01 (Or.inl rfl)) ?_
          cases ho
          exact h _ (Or.inl rfl) h24
        · rw [if_pos c5] at ho
          refine us_iconstC hR dL_begins_161 (c := 1) (by decide) ?_
          refine us_goto hR dL_begins_162 166 (by decide) ?_
          refine us_iret hR dL_begins_166 rfl (nar01 (Or.inr rfl)) ?_
          cases ho
          exact h _ (Or.inr rfl) h24
  have h13033_J139 : ∀ (l0 : Nat) (l1 : Nat) (l2 : Int32) (l3 : Int32) (k0 : Int32)  (S : Lx) (Ga : ab_G) (bc bs : Nat) (h2 : LRep Ga S) (ho : l_13033_J139 l0 l1 l2 l3 k0 bc bs S = some o), R 139 [some (.ref l0), some (.ref l1), some (.int l2), some (.int l3)] [.int k0] Ga bc bs := by
    intro l0 l1 l2 l3 k0  S Ga bc bs h2 ho
    unfold l_13033_J139 at ho
    refine us_istore_n hR dL_begins_139 (Nat.le_of_ble_eq_true rfl) ?_
    exact h13033_J140 l0 l1 l2 k0  S Ga _ _ h2 ho
  have h13033_J138 : ∀ (l0 : Nat) (l1 : Nat) (l2 : Int32) (l3 : Int32)  (S : Lx) (Ga : ab_G) (bc bs : Nat) (h2 : LRep Ga S) (ho : l_13033_J138 l0 l1 l2 l3 bc bs S = some o), R 138 [some (.ref l0), some (.ref l1), some (.int l2), some (.int l3)] [] Ga bc bs := by
    intro l0 l1 l2 l3  S Ga bc bs h2 ho
    unfold l_13033_J138 at ho
    refine us_iconstC hR dL_begins_138 (c := 0) (by decide) ?_
    exact h13033_J139 l0 l1 l2 l3 0  S Ga _ _ h2 ho
  have h13033_J86 : ∀ (l0 : Nat) (l1 : Nat) (l2 : Int32) (l3 : Int32) (k0 : Int32)  (S : Lx) (Ga : ab_G) (bc bs : Nat) (h2 : LRep Ga S) (ho : l_13033_J86 l0 l1 l2 l3 k0 bc bs S = some o), R 86 [some (.ref l0), some (.ref l1), some (.int l2), some (.int l3)] [.int k0] Ga bc bs := by
    intro l0 l1 l2 l3 k0  S Ga bc bs h2 ho
    unfold l_13033_J86 at ho
    refine us_istore_n hR dL_begins_86 (Nat.le_of_ble_eq_true rfl) ?_
    refine us_goto hR dL_begins_87 140 (by decide) ?_
    exact h13033_J140 l0 l1 l2 k0  S Ga _ _ h2 ho
  have h13033_J85 : ∀ (l0 : Nat) (l1 : Nat) (l2 : Int32) (l3 : Int32)  (S : Lx) (Ga : ab_G) (bc bs : Nat) (h2 : LRep Ga S) (ho : l_13033_J85 l0 l1 l2 l3 bc bs S = some o), R 85 [some (.ref l0), some (.ref l1), some (.int l2), some (.int l3)] [] Ga bc bs := by
    intro l0 l1 l2 l3  S Ga bc bs h2 ho
    unfold l_13033_J85 at ho
    refine us_iconstC hR dL_begins_85 (c := 0) (by decide) ?_
    exact h13033_J86 l0 l1 l2 l3 0  S Ga _ _ h2 ho
  have h13033_J33 : ∀ (l0 : Nat) (l1 : Nat) (l2 : Int32) (l3 : Int32) (k0 : Int32)  (S : Lx) (Ga : ab_G) (bc bs : Nat) (h2 : LRep Ga S) (ho : l_13033_J33 l0 l1 l2 l3 k0 bc bs S = some o), R 33 [some (.ref l0), some (.ref l1), some (.int l2), some (.int l3)] [.int k0] Ga bc bs := by
    intro l0 l1 l2 l3 k0  S Ga bc bs h2 ho
    unfold l_13033_J33 at ho
    refine us_istore_n hR dL_begins_33 (Nat.le_of_ble_eq_true rfl) ?_
    refine us_aload_n hR dL_begins_34 rfl ?_
    refine us_iconstC hR dL_begins_35 (c := 3) (by decide) ?_
    refine us_iload_n hR dL_begins_36 rfl ?_
    refine us_iconstC hR dL_begins_37 (c := 3) (by decide) ?_
    refine us_callS hR dL_begins_38 (y := 13001) (by decide +kernel) (by decide) (J := i13001) rfl rfl rfl rfl (rest := _) (Nat.le_of_ble_eq_true rfl) (Nat.zero_le _) (Nat.zero_le _) ?_
    obtain ⟨r6, hr6⟩ := bP_ex ho
    replace ho := bP_go ho hr6
    refine sh_13001 h2.1 hr6 ?_
    have hg := gd_c ho
    rw [gd_e hg] at ho
    refine ul_iastore h2 hg hR dL_begins_41 (fun G7 S7 hs7 h27 => ?_)
    rw [← hs7, bS_eq] at ho
    refine us_aload_n hR dL_begins_42 rfl ?_
    refine us_iconstC hR dL_begins_43 (c := 3) (by decide) ?_
    have hg := gd_c ho
    rw [gd_e hg] at ho
    refine ul_iaload h27 hg hR dL_begins_44 ?_
    refine us_iconstC hR dL_begins_45 (c := 1) (by decide) ?_
    refine us_icmp_ne hR dL_begins_46 90 (by decide) (fun c8 => ?_) (fun c8 => ?_)
    · rw [if_neg c8] at ho
      refine us_aload_n hR dL_begins_90 rfl ?_
      refine us_iconstC hR dL_begins_91 (c := 3) (by decide) ?_
      refine us_iconstC hR dL_begins_92 (c := 3) (by decide) ?_
      have hg := gd_c ho
      rw [gd_e hg] at ho
      refine ul_iastore h27 hg hR dL_begins_93 (fun G9 S9 hs9 h29 => ?_)
      rw [← hs9, bS_eq] at ho
      refine us_iload_n hR dL_begins_94 rfl ?_
      refine us_if_eq hR dL_begins_95 138 (by decide) (fun c10 => ?_) (fun c10 => ?_)
      · rw [if_pos c10] at ho
        exact h13033_J138 l0 l1 l2 k0  S9 G9 _ _ h29 ho
      · rw [if_neg c10] at ho
        refine us_aload_n hR dL_begins_98 rfl ?_
        refine us_ldc2_w hR dL_begins_99 (v := 2988182771855680868) (by decide +kernel) ?_
        have hg := gd_c ho
        rw [gd_e hg] at ho
        have hme := hg
        have hb := gd_c ho
        rw [gd_e hb] at ho
        refine us_callS hR dL_begins_102 (y := 13002) (by decide +kernel) (by decide) (J := i13002) rfl rfl rfl rfl (rest := _) (Nat.le_of_ble_eq_true rfl) hb.1 hb.2 ?_
        obtain ⟨q11, hs11⟩ := bO_ex ho
        obtain ⟨T11, r11⟩ := q11
        replace ho := bO_go ho hs11
        refine sh_13002 h29.1 hme hs11 (fun G11 h311 hF11 => ?_)
        have h211 := h29.cls h311 hF11
        obtain ⟨S11, hS11⟩ : ∃ Sz, Sz = lT S9 T11 := ⟨_, rfl⟩
        rw [bS_eq, ← hS11] at ho
        rw [← hS11] at h211
        refine us_bipushC hR dL_begins_105 (c := 8) (by decide) ?_
        refine us_icmp_ne hR dL_begins_107 138 (by decide) (fun c12 => ?_) (fun c12 => ?_)
        · rw [if_neg c12] at ho
          exact h13033_J138 l0 l1 l2 k0  S11 G11 _ _ h211 ho
        · rw [if_pos c12] at ho
          refine us_aload_n hR dL_begins_110 rfl ?_
          refine us_ldc2_w hR dL_begins_111 (v := 2911149965011478907) (by decide +kernel) ?_
          have hg := gd_c ho
          rw [gd_e hg] at ho
          have hme := hg
          have hb := gd_c ho
          rw [gd_e hb] at ho
          refine us_callS hR dL_begins_114 (y := 13002) (by decide +kernel) (by decide) (J := i13002) rfl rfl rfl rfl (rest := _) (Nat.le_of_ble_eq_true rfl) hb.1 hb.2 ?_
          obtain ⟨q13, hs13⟩ := bO_ex ho
          obtain ⟨T13, r13⟩ := q13
          replace ho := bO_go ho hs13
          refine sh_13002 h211.1 hme hs13 (fun G13 h313 hF13 => ?_)
          have h213 := h211.cls h313 hF13
          obtain ⟨S13, hS13⟩ : ∃ Sz, Sz = lT S11 T13 := ⟨_, rfl⟩
          rw [bS_eq, ← hS13] at ho
          rw [← hS13] at h213
          refine us_bipushC hR dL_begins_117 (c := 16) (by decide) ?_
          refine us_icmp_ne hR dL_begins_119 138 (by decide) (fun c14 => ?_) (fun c14 => ?_)
          · rw [if_neg c14] at ho
            exact h13033_J138 l0 l1 l2 k0  S13 G13 _ _ h213 ho
          · rw [if_pos c14] at ho
            refine us_aload_n hR dL_begins_122 rfl ?_
            refine us_ldc2_w hR dL_begins_123 (v := 35322065136463224) (by decide +kernel) ?_
            have hg := gd_c ho
            rw [gd_e hg] at ho
            have hme := hg
            have hb := gd_c ho
            rw [gd_e hb] at ho
            refine us_callS hR dL_begins_126 (y := 13002) (by decide +kernel) (by decide) (J := i13002) rfl rfl rfl rfl (rest := _) (Nat.le_of_ble_eq_true rfl) hb.1 hb.2 ?_
            obtain ⟨q15, hs15⟩ := bO_ex ho
            obtain ⟨T15, r15⟩ := q15
            replace ho := bO_go ho hs15
            refine sh_13002 h213.1 hme hs15 (fun G15 h315 hF15 => ?_)
            have h215 := h213.cls h315 hF15
            obtain ⟨S15, hS15⟩ : ∃ Sz, Sz = lT S13 T15 := ⟨_, rfl⟩
            rw [bS_eq, ← hS15] at ho
            rw [← hS15] at h215
            refine us_bipushC hR dL_begins_129 (c := 23) (by decide) ?_
            refine us_icmp_ne hR dL_begins_131 138 (by decide) (fun c16 => ?_) (fun c16 => ?_)
            · rw [if_neg c16] at ho
              exact h13033_J138 l0 l1 l2 k0  S15 G15 _ _ h215 ho
            · rw [if_pos c16] at ho
              refine us_iconstC hR dL_begins_134 (c := 1) (by decide) ?_
              refine us_goto hR dL_begins_135 139 (by decide) ?_
              exact h13033_J139 l0 l1 l2 k0 1  S15 G15 _ _ h215 ho
    · rw [if_pos c8] at ho
      refine us_aload_n hR dL_begins_49 rfl ?_
      refine us_iconstC hR dL_begins_50 (c := 3) (by decide) ?_
      refine us_iconstC hR dL_begins_51 (c := 2) (by decide) ?_
      have hg := gd_c ho
      rw [gd_e hg] at ho
      refine ul_iastore h27 hg hR dL_begins_52 (fun G17 S17 hs17 h217 => ?_)
      rw [← hs17, bS_eq] at ho
      refine us_iload_n hR dL_begins_53 rfl ?_
      refine us_if_eq hR dL_begins_54 85 (by decide) (fun c18 => ?_) (fun c18 => ?_)
      · rw [if_pos c18] at ho
        exact h13033_J85 l0 l1 l2 k0  S17 G17 _ _ h217 ho
      · rw [if_neg c18] at ho
        refine us_aload_n hR dL_begins_57 rfl ?_
        refine us_ldc2_w hR dL_begins_58 (v := 2988182771855680868) (by decide +kernel) ?_
        have hg := gd_c ho
        rw [gd_e hg] at ho
        have hme := hg
        have hb := gd_c ho
        rw [gd_e hb] at ho
        refine us_callS hR dL_begins_61 (y := 13002) (by decide +kernel) (by decide) (J := i13002) rfl rfl rfl rfl (rest := _) (Nat.le_of_ble_eq_true rfl) hb.1 hb.2 ?_
        obtain ⟨q19, hs19⟩ := bO_ex ho
        obtain ⟨T19, r19⟩ := q19
        replace ho := bO_go ho hs19
        refine sh_13002 h217.1 hme hs19 (fun G19 h319 hF19 => ?_)
        have h219 := h217.cls h319 hF19
        obtain ⟨S19, hS19⟩ : ∃ Sz, Sz = lT S17 T19 := ⟨_, rfl⟩
        rw [bS_eq, ← hS19] at ho
        rw [← hS19] at h219
        refine us_bipushC hR dL_begins_64 (c := 8) (by decide) ?_
        refine us_icmp_ne hR dL_begins_66 85 (by decide) (fun c20 => ?_) (fun c20 => ?_)
        · rw [if_neg c20] at ho
          exact h13033_J85 l0 l1 l2 k0  S19 G19 _ _ h219 ho
        · rw [if_pos c20] at ho
          refine us_aload_n hR dL_begins_69 rfl ?_
          refine us_ldc2_w hR dL_begins_70 (v := 9023938359155060603) (by decide +kernel) ?_
          have hg := gd_c ho
          rw [gd_e hg] at ho
          have hme := hg
          have hb := gd_c ho
          rw [gd_e hb] at ho
          refine us_callS hR dL_begins_73 (y := 13002) (by decide +kernel) (by decide) (J := i13002) rfl rfl rfl rfl (rest := _) (Nat.le_of_ble_eq_true rfl) hb.1 hb.2 ?_
          obtain ⟨q21, hs21⟩ := bO_ex ho
          obtain ⟨T21, r21⟩ := q21
          replace ho := bO_go ho hs21
          refine sh_13002 h219.1 hme hs21 (fun G21 h321 hF21 => ?_)
          have h221 := h219.cls h321 hF21
          obtain ⟨S21, hS21⟩ : ∃ Sz, Sz = lT S19 T21 := ⟨_, rfl⟩
          rw [bS_eq, ← hS21] at ho
          rw [← hS21] at h221
          refine us_bipushC hR dL_begins_76 (c := 16) (by decide) ?_
          refine us_icmp_ne hR dL_begins_78 85 (by decide) (fun c22 => ?_) (fun c22 => ?_)
          · rw [if_neg c22] at ho
            exact h13033_J85 l0 l1 l2 k0  S21 G21 _ _ h221 ho
          · rw [if_pos c22] at ho
            refine us_iconstC hR dL_begins_81 (c := 1) (by decide) ?_
            refine us_goto hR dL_begins_82 86 (by decide) ?_
            exact h13033_J86 l0 l1 l2 k0 1  S21 G21 _ _ h221 ho
  have h13033_J32 : ∀ (l0 : Nat) (l1 : Nat) (l2 : Int32) (l3 : Int32)  (S : Lx) (Ga : ab_G) (bc bs : Nat) (h2 : LRep Ga S) (ho : l_13033_J32 l0 l1 l2 l3 bc bs S = some o), R 32 [some (.ref l0), some (.ref l1), some (.int l2), some (.int l3)] [] Ga bc bs := by
    intro l0 l1 l2 l3  S Ga bc bs h2 ho
    unfold l_13033_J32 at ho
    refine us_iconstC hR dL_begins_32 (c := 0) (by decide) ?_
    exact h13033_J33 l0 l1 l2 l3 0  S Ga _ _ h2 ho
  change R _ _ _ _ 180 15000
  refine us_aload_n hR dL_begins_0 rfl ?_
  have hg := gd_c ho
  rw [gd_e hg] at ho
  refine us_callV hR dL_begins_1 (y := 11002) (by decide +kernel) (by decide) (J := i11002) rfl rfl rfl rfl (H_kind1 h2.1 hg (by decide)) rfl (Nat.le_of_ble_eq_true rfl) (Nat.zero_le _) (Nat.zero_le _) ?_
  obtain ⟨q23, hs23⟩ := bO_ex ho
  obtain ⟨T23, r23⟩ := q23
  replace ho := bO_go ho hs23
  refine sh_11002 h2.1 hs23 (fun G23 h323 hF23 => ?_)
  have h223 := h2.cls h323 hF23
  obtain ⟨S23, hS23⟩ : ∃ Sz, Sz = lT S T23 := ⟨_, rfl⟩
  rw [bS_eq, ← hS23] at ho
  rw [← hS23] at h223
  refine us_if_lt hR dL_begins_4 32 (by decide) (fun c24 => ?_) (fun c24 => ?_)
  · rw [if_pos c24] at ho
    exact h13033_J32 x0 x1 x2 x3  S23 G23 _ _ h223 ho
  · rw [if_neg c24] at ho
    change R _ _ _ _ 180 15000
    refine us_aload_n hR dL_begins_7 rfl ?_
    have hg := gd_c ho
    rw [gd_e hg] at ho
    refine us_callV hR dL_begins_8 (y := 11004) (by decide +kernel) (by decide) (J := i11004) rfl rfl rfl rfl (H_kind1 h223.1 hg (by decide)) rfl (Nat.le_of_ble_eq_true rfl) (Nat.zero_le _) (Nat.zero_le _) ?_
    obtain ⟨r25, hr25⟩ := bP_ex ho
    replace ho := bP_go ho hr25
    refine sh_11004 h223.1 hr25 ?_
    refine us_if_ne hR dL_begins_11 32 (by decide) (fun c26 => ?_) (fun c26 => ?_)
    · rw [if_neg c26] at ho
      exact h13033_J32 x0 x1 x2 x3  S23 G23 _ _ h223 ho
    · rw [if_pos c26] at ho
      change R _ _ _ _ 180 15000
      refine us_aload_n hR dL_begins_14 rfl ?_
      have hg := gd_c ho
      rw [gd_e hg] at ho
      refine us_callV hR dL_begins_15 (y := 11006) (by decide +kernel) (by decide) (J := i11006) rfl rfl rfl rfl (H_kind1 h223.1 hg (by decide)) rfl (Nat.le_of_ble_eq_true rfl) (Nat.le_of_ble_eq_true rfl) (Nat.le_of_ble_eq_true rfl) ?_
      obtain ⟨q27, hs27⟩ := bO_ex ho
      obtain ⟨T27, r27⟩ := q27
      replace ho := bO_go ho hs27
      refine sh_11006 h223.1 hs27 (fun G27 h327 hF27 => ?_)
      have h227 := h223.cls h327 hF27
      obtain ⟨S27, hS27⟩ : ∃ Sz, Sz = lT S23 T27 := ⟨_, rfl⟩
      rw [bS_eq, ← hS27] at ho
      rw [← hS27] at h227
      change R _ _ _ _ 140 11300
      refine us_if_ne hR dL_begins_18 32 (by decide) (fun c28 => ?_) (fun c28 => ?_)
      · rw [if_neg c28] at ho
        exact h13033_J32 x0 x1 x2 x3  S27 G27 _ _ h227 ho
      · rw [if_pos c28] at ho
        change R _ _ _ _ 140 11300
        refine us_aload_n hR dL_begins_21 rfl ?_
        have hg := gd_c ho
        rw [gd_e hg] at ho
        have hme := hg
        refine us_callS hR dL_begins_22 (y := 13005) (by decide +kernel) (by decide) (J := i13005) rfl rfl rfl rfl (rest := _) (Nat.le_of_ble_eq_true rfl) (Nat.le_of_ble_eq_true rfl) (Nat.le_of_ble_eq_true rfl) ?_
        obtain ⟨q29, hs29⟩ := bO_ex ho
        obtain ⟨T29, r29⟩ := q29
        replace ho := bO_go ho hs29
        refine sh_13005 h227.1 hme hs29 (fun G29 h329 hF29 => ?_)
        have h229 := h227.cls h329 hF29
        obtain ⟨S29, hS29⟩ : ∃ Sz, Sz = lT S27 T29 := ⟨_, rfl⟩
        rw [bS_eq, ← hS29] at ho
        rw [← hS29] at h229
        change R _ _ _ _ 99 7594
        refine us_if_ne hR dL_begins_25 32 (by decide) (fun c30 => ?_) (fun c30 => ?_)
        · rw [if_neg c30] at ho
          exact h13033_J32 x0 x1 x2 x3  S29 G29 _ _ h229 ho
        · rw [if_pos c30] at ho
          change R _ _ _ _ 99 7594
          refine us_iconstC hR dL_begins_28 (c := 1) (by decide) ?_
          refine us_goto hR dL_begins_29 33 (by decide) ?_
          exact h13033_J33 x0 x1 x2 x3 1  S29 G29 _ _ h229 ho
def l_13034_J66 (l0 : Nat) (l1 : Nat) (l2 : Int32) (l3 : Int32) (l4 : Int32) (l5 : Int32) (bc bs : Nat) (S : Lx) : Option (Lx × Int32) :=
  gd (tK S.1 l0 = 12) <|
  gd ((40 : Nat) ≤ bc ∧ 3700 ≤ bs) <|
  bO (h_11006 l0 S.1) fun T1 r1 => bS (lT S T1) fun S1 =>
  if r1 = 0 then
    gd (tK S1.1 l0 = 12) <|
    gd ((40 : Nat) ≤ (bc - 40) ∧ 3700 ≤ (bs - 3700)) <|
    bO (h_11007 l0 S1.1) fun T3 r3 => bS (lT S1 T3) fun S3 =>
    if r3 = (-1) then
      gd (tK S3.1 l0 = 12) <|
      gd ((41 : Nat) ≤ ((bc - 40) - 40) ∧ 3706 ≤ ((bs - 3700) - 3700)) <|
      bO (h_13005 l0 S3.1) fun T5 r5 => bS (lT S3 T5) fun S5 =>
      gd (vi 3 (S5.2 l1).length) <|
      if r5 = (xg (S5.2 l1) 3) then
        some (S5, 1)
      else
        some (S5, 0)
    else
      some (S3, 0)
  else
    some (S1, 0)
def l_13034_L12 : Nat → Nat → Nat → Int32 → Int32 → Int32 → Int32 → Nat → Nat → Lx → Option (Lx × Int32)
  | 0, _, _, _, _, _, _, _, _, _ => none
  | n + 1, l0, l1, l2, l3, l4, l5, bc, bs, S =>
    if l4 ≤ l5 then
      l_13034_J66 l0 l1 l2 l3 l4 l5 bc bs S
    else
      gd (tK S.1 l0 = 12) <|
      bP (h_11004 l0 S.1) fun r8 =>
      if 240 ≤ r8 then
        l_13034_J66 l0 l1 l2 l3 l4 l5 bc bs S
      else
        gd ((96 : Nat) ≤ bc ∧ 576 ≤ bs) <|
        bO (h_13032 l0 (l2 >>> ((2 + l5) &&& 31)) (l3 >>> (l5 &&& 31)) S.1) fun T10 r10 => bS (lT S T10) fun S10 =>
        gd (vi 3 (S10.2 l1).length) <|
        gd (vi 3 (S10.2 l1).length) <|
        bS (lSet S10 l1 3 ((xg (S10.2 l1) 3) + r10)) fun S11 =>
        if 0 ≤ r10 then
          l_13034_L12 n l0 l1 l2 l3 l4 (l5 + 1) (bc - 96) (bs - 576) S11
        else
          some (S11, 0)
def l_13034 (x0 : Nat) (x1 : Nat) (x2 : Int32) (x3 : Int32) (x4 : Int32) (S : Lx) : Option (Lx × Int32) :=
  bP (h_13001 x2 3 S.1) fun r13 =>
  l_13034_L12 9 x0 x1 x2 x3 (1 + r13) 0 460 14000 S
set_option maxRecDepth 8000 in
theorem sl_13034 {d : Nat} {G : ab_G} {S : Lx} {P : ab_Pq} {X : ab_Xq} (h2 : LRep G S) {x0 : Nat} {x1 : Nat} {x2 : Int32} {x3 : Int32} {x4 : Int32} {o : Lx × Int32} (ho : l_13034 x0 x1 x2 x3 x4 S = some o) (h : ∀ G1, (o.2 = 0 ∨ o.2 = 1) → LRep G1 o.1 → P G1 (some (.int o.2))) : ab_Gam (d + 917) 13034 [.ref x0, .ref x1, .int x2, .int x3, .int x4] G P X := by
  unfold l_13034 at ho
  refine ab_enter (I := i13034) rfl (Nat.le_of_ble_eq_true rfl) (fun R hR => ?_)
  have h13034_J66 : ∀ (l0 : Nat) (l1 : Nat) (l2 : Int32) (l3 : Int32) (l4 : Int32) (l5 : Int32) (w6 : Option Value) (S : Lx) (Ga : ab_G) (bc bs : Nat) (h2 : LRep Ga S) (ho : l_13034_J66 l0 l1 l2 l3 l4 l5 bc bs S = some o), R 66 [some (.ref l0), some (.ref l1), some (.int l2), some (.int l3), some (.int l4), some (.int l5), w6] [] Ga bc bs := by
    intro l0 l1 l2 l3 l4 l5 w6 S Ga bc bs h2 ho
    unfold l_13034_J66 at ho
    refine us_aload_n hR dL_goesOn_66 rfl ?_
    have hg := gd_c ho
    rw [gd_e hg] at ho
    have hb := gd_c ho
    rw [gd_e hb] at ho
    refine us_callV hR dL_goesOn_67 (y := 11006) (by decide +kernel) (by decide) (J := i11006) rfl rfl rfl rfl (H_kind1 h2.1 hg (by decide)) rfl (Nat.le_of_ble_eq_true rfl) hb.1 hb.2 ?_
    obtain ⟨q1, hs1⟩ := bO_ex ho
    obtain ⟨T1, r1⟩ := q1
    replace ho := bO_go ho hs1
    refine sh_11006 h2.1 hs1 (fun G1 h31 hF1 => ?_)
    have h21 := h2.cls h31 hF1
    obtain ⟨S1, hS1⟩ : ∃ Sz, Sz = lT S T1 := ⟨_, rfl⟩
    rw [bS_eq, ← hS1] at ho
    rw [← hS1] at h21
    refine us_if_ne hR dL_goesOn_70 95 (by decide) (fun c2 => ?_) (fun c2 => ?_)
    · rw [if_neg c2] at ho
      refine us_iconstC hR dL_goesOn_95 (c := 0) (by decide) ?_
      refine us_iret hR dL_goesOn_96 rfl (nar01 (Or.inl rfl)) ?_
      cases ho
      exact h _ (Or.inl rfl) h21
    · rw [if_pos c2] at ho
      refine us_aload_n hR dL_goesOn_73 rfl ?_
      have hg := gd_c ho
      rw [gd_e hg] at ho
      have hb := gd_c ho
      rw [gd_e hb] at ho
      refine us_callV hR dL_goesOn_74 (y := 11007) (by decide +kernel) (by decide) (J := i11007) rfl rfl rfl rfl (H_kind1 h21.1 hg (by decide)) rfl (Nat.le_of_ble_eq_true rfl) hb.1 hb.2 ?_
      obtain ⟨q3, hs3⟩ := bO_ex ho
      obtain ⟨T3, r3⟩ := q3
      replace ho := bO_go ho hs3
      refine sh_11007 h21.1 hs3 (fun G3 h33 hF3 => ?_)
      have h23 := h21.cls h33 hF3
      obtain ⟨S3, hS3⟩ : ∃ Sz, Sz = lT S1 T3 := ⟨_, rfl⟩
      rw [bS_eq, ← hS3] at ho
      rw [← hS3] at h23
      refine us_iconstC hR dL_goesOn_77 (c := (-1)) (by decide) ?_
      refine us_icmp_ne hR dL_goesOn_78 95 (by decide) (fun c4 => ?_) (fun c4 => ?_)
      · rw [if_neg c4] at ho
        refine us_iconstC hR dL_goesOn_95 (c := 0) (by decide) ?_
        refine us_iret hR dL_goesOn_96 rfl (nar01 (Or.inl rfl)) ?_
        cases ho
        exact h _ (Or.inl rfl) h23
      · rw [if_pos c4] at ho
        refine us_aload_n hR dL_goesOn_81 rfl ?_
        have hg := gd_c ho
        rw [gd_e hg] at ho
        have hme := hg
        have hb := gd_c ho
        rw [gd_e hb] at ho
        refine us_callS hR dL_goesOn_82 (y := 13005) (by decide +kernel) (by decide) (J := i13005) rfl rfl rfl rfl (rest := _) (Nat.le_of_ble_eq_true rfl) hb.1 hb.2 ?_
        obtain ⟨q5, hs5⟩ := bO_ex ho
        obtain ⟨T5, r5⟩ := q5
        replace ho := bO_go ho hs5
        refine sh_13005 h23.1 hme hs5 (fun G5 h35 hF5 => ?_)
        have h25 := h23.cls h35 hF5
        obtain ⟨S5, hS5⟩ : ∃ Sz, Sz = lT S3 T5 := ⟨_, rfl⟩
        rw [bS_eq, ← hS5] at ho
        rw [← hS5] at h25
        refine us_aload_n hR dL_goesOn_85 rfl ?_
        refine us_iconstC hR dL_goesOn_86 (c := 3) (by decide) ?_
        have hg := gd_c ho
        rw [gd_e hg] at ho
        refine ul_iaload h25 hg hR dL_goesOn_87 ?_
        refine us_icmp_ne hR dL_goesOn_88 95 (by decide) (fun c6 => ?_) (fun c6 => ?_)
        · rw [if_neg c6] at ho
          refine us_iconstC hR dL_goesOn_95 (c := 0) (by decide) ?_
          refine us_iret hR dL_goesOn_96 rfl (nar01 (Or.inl rfl)) ?_
          cases ho
          exact h _ (Or.inl rfl) h25
        · rw [if_pos c6] at ho
          refine us_iconstC hR dL_goesOn_91 (c := 1) (by decide) ?_
          refine us_goto hR dL_goesOn_92 96 (by decide) ?_
          refine us_iret hR dL_goesOn_96 rfl (nar01 (Or.inr rfl)) ?_
          cases ho
          exact h _ (Or.inr rfl) h25
  have h13034_L12 : ∀ (n : Nat) (l0 : Nat) (l1 : Nat) (l2 : Int32) (l3 : Int32) (l4 : Int32) (l5 : Int32) (w6 : Option Value) (S : Lx) (Ga : ab_G) (bc bs : Nat) (h2 : LRep Ga S) (ho : l_13034_L12 n l0 l1 l2 l3 l4 l5 bc bs S = some o), R 12 [some (.ref l0), some (.ref l1), some (.int l2), some (.int l3), some (.int l4), some (.int l5), w6] [] Ga bc bs := by
    intro n
    induction n with
    | zero => intro l0 l1 l2 l3 l4 l5 w6 S Ga bc bs h2 ho; exact absurd ho (by intro hc; cases hc)
    | succ n12 ih12 =>
      intro l0 l1 l2 l3 l4 l5 w6 S Ga bc bs h2 ho
      rw [l_13034_L12] at ho
      refine us_iload hR dL_goesOn_12 rfl ?_
      refine us_iload hR dL_goesOn_14 rfl ?_
      refine us_icmp_ge hR dL_goesOn_16 66 (by decide) (fun c7 => ?_) (fun c7 => ?_)
      · rw [if_pos c7] at ho
        exact h13034_J66 l0 l1 l2 l3 l4 l5 _ S Ga _ _ h2 ho
      · rw [if_neg c7] at ho
        refine us_aload_n hR dL_goesOn_19 rfl ?_
        have hg := gd_c ho
        rw [gd_e hg] at ho
        refine us_callV hR dL_goesOn_20 (y := 11004) (by decide +kernel) (by decide) (J := i11004) rfl rfl rfl rfl (H_kind1 h2.1 hg (by decide)) rfl (Nat.le_of_ble_eq_true rfl) (Nat.zero_le _) (Nat.zero_le _) ?_
        obtain ⟨r8, hr8⟩ := bP_ex ho
        replace ho := bP_go ho hr8
        refine sh_11004 h2.1 hr8 ?_
        refine us_sipushC hR dL_goesOn_23 (c := 240) (by decide) ?_
        refine us_icmp_ge hR dL_goesOn_26 66 (by decide) (fun c9 => ?_) (fun c9 => ?_)
        · rw [if_pos c9] at ho
          exact h13034_J66 l0 l1 l2 l3 l4 l5 _ S Ga _ _ h2 ho
        · rw [if_neg c9] at ho
          refine us_aload_n hR dL_goesOn_29 rfl ?_
          refine us_iload_n hR dL_goesOn_30 rfl ?_
          refine us_iconstC hR dL_goesOn_31 (c := 2) (by decide) ?_
          refine us_iload hR dL_goesOn_32 rfl ?_
          refine us_iadd hR dL_goesOn_34 ?_
          refine us_ishr hR dL_goesOn_35 ?_
          refine us_iload_n hR dL_goesOn_36 rfl ?_
          refine us_iload hR dL_goesOn_37 rfl ?_
          refine us_ishr hR dL_goesOn_39 ?_
          have hb := gd_c ho
          rw [gd_e hb] at ho
          refine us_callS hR dL_goesOn_40 (y := 13032) (by decide +kernel) (by decide) (J := i13032) rfl rfl rfl rfl (rest := _) (Nat.le_of_ble_eq_true rfl) hb.1 hb.2 ?_
          obtain ⟨q10, hs10⟩ := bO_ex ho
          obtain ⟨T10, r10⟩ := q10
          replace ho := bO_go ho hs10
          refine sh_13032 h2.1 hs10 (fun G10 h310 hF10 => ?_)
          have h210 := h2.cls h310 hF10
          obtain ⟨S10, hS10⟩ : ∃ Sz, Sz = lT S T10 := ⟨_, rfl⟩
          rw [bS_eq, ← hS10] at ho
          rw [← hS10] at h210
          refine us_istore hR dL_goesOn_43 (Nat.le_of_ble_eq_true rfl) ?_
          refine us_aload_n hR dL_goesOn_45 rfl ?_
          refine us_iconstC hR dL_goesOn_46 (c := 3) (by decide) ?_
          refine us_dup2 hR dL_goesOn_47 rfl rfl ?_
          have hg := gd_c ho
          rw [gd_e hg] at ho
          refine ul_iaload h210 hg hR dL_goesOn_48 ?_
          refine us_iload hR dL_goesOn_49 rfl ?_
          refine us_iadd hR dL_goesOn_51 ?_
          have hg := gd_c ho
          rw [gd_e hg] at ho
          refine ul_iastore h210 hg hR dL_goesOn_52 (fun G11 S11 hs11 h211 => ?_)
          rw [← hs11, bS_eq] at ho
          refine us_iload hR dL_goesOn_53 rfl ?_
          refine us_if_ge hR dL_goesOn_55 60 (by decide) (fun c12 => ?_) (fun c12 => ?_)
          · rw [if_pos c12] at ho
            refine us_iincC hR dL_goesOn_60 rfl (Nat.le_of_ble_eq_true rfl) (c := 1) (by decide) ?_
            refine us_goto hR dL_goesOn_63 12 (by decide) ?_
            exact ih12 l0 l1 l2 l3 l4 (l5 + 1) _ S11 G11 _ _ h211 ho
          · rw [if_neg c12] at ho
            refine us_iconstC hR dL_goesOn_58 (c := 0) (by decide) ?_
            refine us_iret hR dL_goesOn_59 rfl (nar01 (Or.inl rfl)) ?_
            cases ho
            exact h _ (Or.inl rfl) h211
  change R _ _ _ _ 460 14000
  refine us_iconstC hR dL_goesOn_0 (c := 1) (by decide) ?_
  refine us_iload_n hR dL_goesOn_1 rfl ?_
  refine us_iconstC hR dL_goesOn_2 (c := 3) (by decide) ?_
  refine us_callS hR dL_goesOn_3 (y := 13001) (by decide +kernel) (by decide) (J := i13001) rfl rfl rfl rfl (rest := _) (Nat.le_of_ble_eq_true rfl) (Nat.zero_le _) (Nat.zero_le _) ?_
  obtain ⟨r13, hr13⟩ := bP_ex ho
  replace ho := bP_go ho hr13
  refine sh_13001 h2.1 hr13 ?_
  refine us_iadd hR dL_goesOn_6 ?_
  refine us_istore hR dL_goesOn_7 (Nat.le_of_ble_eq_true rfl) ?_
  refine us_iconstC hR dL_goesOn_9 (c := 0) (by decide) ?_
  refine us_istore hR dL_goesOn_10 (Nat.le_of_ble_eq_true rfl) ?_
  exact h13034_L12 _ x0 x1 x2 x3 (1 + r13) 0 _ S G _ _ h2 ho
def l_13035_L404 : Nat → Nat → Int32 → Int32 → Int32 → Int32 → Int32 → Int32 → Nat → Nat → Int32 → Int32 → Nat → Nat → Lx → Option (Lx × Int32)
  | 0, _, _, _, _, _, _, _, _, _, _, _, _, _, _ => none
  | n + 1, l0, l1, l2, l3, l4, l5, l6, l7, l8, l9, l10, bc, bs, S =>
    gd (tK S.1 l0 = 12) <|
    bP (h_11011 l0 S.1) fun r1 =>
    if r1 ≤ l10 then
      gd (l9 = 0 ∨ l9 = 1) <|
      some (S, l9)
    else
      if l9 = 0 then
        l_13035_L404 n l0 l1 l2 l3 l4 l5 l6 l7 l8 0 (l10 + 1) bc bs S
      else
        gd (tK S.1 l0 = 12) <|
        gd ((1 : Nat) ≤ bc ∧ 6 ≤ bs) <|
        bP (h_13008 l0 l10 S.1) fun r4 =>
        gd (vi l10 (S.2 l7).length) <|
        if r4 = (xg (S.2 l7) l10) then
          l_13035_L404 n l0 l1 l2 l3 l4 l5 l6 l7 l8 1 (l10 + 1) (bc - 1) (bs - 6) S
        else
          l_13035_L404 n l0 l1 l2 l3 l4 l5 l6 l7 l8 0 (l10 + 1) (bc - 1) (bs - 6) S
def l_13035_J351 (l0 : Nat) (l1 : Int32) (l2 : Int32) (l3 : Int32) (l4 : Int32) (l5 : Int32) (l6 : Int32) (l7 : Nat) (l8 : Nat) (l9 : Int32) (l10 : Int32) (bc bs : Nat) (S : Lx) : Option (Lx × Int32) :=
  if l9 = 0 then
    gd (l9 = 0 ∨ l9 = 1) <|
    some (S, l9)
  else
    if l1 ≤ l5 then
      gd (l9 = 0 ∨ l9 = 1) <|
      some (S, l9)
    else
      gd (tK S.1 l0 = 12) <|
      gd ((42 : Nat) ≤ bc ∧ 3712 ≤ bs) <|
      bO (h_13006 l0 ((l1 - l5) - 1) l2 l3 S.1) fun T8 r8 => bS (lT S T8) fun S8 =>
      if r8 = 1 then
        gd (tK S8.1 l0 = 12) <|
        bP (h_11013 l0 S8.1) fun r10 =>
        if r10 = 0 then
          gd (tK S8.1 l0 = 12) <|
          bP (h_11011 l0 S8.1) fun r12 =>
          if l6 < r12 then
            l_13035_L404 40 l0 l1 l2 l3 l4 l5 l6 l7 l8 0 0 (bc - 42) (bs - 3712) S8
          else
            l_13035_L404 40 l0 l1 l2 l3 l4 l5 l6 l7 l8 1 0 (bc - 42) (bs - 3712) S8
        else
          l_13035_L404 40 l0 l1 l2 l3 l4 l5 l6 l7 l8 0 0 (bc - 42) (bs - 3712) S8
      else
        l_13035_L404 40 l0 l1 l2 l3 l4 l5 l6 l7 l8 0 0 (bc - 42) (bs - 3712) S8
def l_13035_L306 (k175 : Nat → Int32 → Int32 → Int32 → Int32 → Int32 → Int32 → Nat → Nat → Int32 → Int32 → Nat → Nat → Lx → Option (Lx × Int32)) : Nat → Nat → Int32 → Int32 → Int32 → Int32 → Int32 → Int32 → Nat → Nat → Int32 → Int32 → Int32 → Int32 → Nat → Nat → Lx → Option (Lx × Int32)
  | 0, _, _, _, _, _, _, _, _, _, _, _, _, _, _, _, _ => none
  | n + 1, l0, l1, l2, l3, l4, l5, l6, l7, l8, l9, l10, l11, l12, bc, bs, S =>
    if 32 ≤ l12 then
      k175 l0 l1 l2 l3 l4 l5 l6 l7 l8 l9 (l10 + 1) bc bs S
    else
      if l9 = 0 then
        l_13035_L306 k175 n l0 l1 l2 l3 l4 l5 l6 l7 l8 0 l10 l11 (l12 + 1) bc bs S
      else
        gd (tK S.1 l0 = 12) <|
        gd ((1 : Nat) ≤ bc ∧ 6 ≤ bs) <|
        bP (h_13009 l0 l12 S.1) fun r16 =>
        gd (vi l12 (S.2 l8).length) <|
        if r16 = (xg (S.2 l8) l12) then
          l_13035_L306 k175 n l0 l1 l2 l3 l4 l5 l6 l7 l8 1 l10 l11 (l12 + 1) (bc - 1) (bs - 6) S
        else
          l_13035_L306 k175 n l0 l1 l2 l3 l4 l5 l6 l7 l8 0 l10 l11 (l12 + 1) (bc - 1) (bs - 6) S
def l_13035_L264 (k175 : Nat → Int32 → Int32 → Int32 → Int32 → Int32 → Int32 → Nat → Nat → Int32 → Int32 → Nat → Nat → Lx → Option (Lx × Int32)) : Nat → Nat → Int32 → Int32 → Int32 → Int32 → Int32 → Int32 → Nat → Nat → Int32 → Int32 → Int32 → Int32 → Nat → Nat → Lx → Option (Lx × Int32)
  | 0, _, _, _, _, _, _, _, _, _, _, _, _, _, _, _, _ => none
  | n + 1, l0, l1, l2, l3, l4, l5, l6, l7, l8, l9, l10, l11, l12, bc, bs, S =>
    if l6 ≤ l12 then
      l_13035_L306 k175 40 l0 l1 l2 l3 l4 l5 l6 l7 l8 l9 l10 l11 0 bc bs S
    else
      if l9 = 0 then
        l_13035_L264 k175 n l0 l1 l2 l3 l4 l5 l6 l7 l8 0 l10 l11 (l12 + 1) bc bs S
      else
        gd (tK S.1 l0 = 12) <|
        gd ((1 : Nat) ≤ bc ∧ 6 ≤ bs) <|
        bP (h_13008 l0 l12 S.1) fun r20 =>
        gd (vi l12 (S.2 l7).length) <|
        if r20 = (xg (S.2 l7) l12) then
          l_13035_L264 k175 n l0 l1 l2 l3 l4 l5 l6 l7 l8 1 l10 l11 (l12 + 1) (bc - 1) (bs - 6) S
        else
          l_13035_L264 k175 n l0 l1 l2 l3 l4 l5 l6 l7 l8 0 l10 l11 (l12 + 1) (bc - 1) (bs - 6) S
def l_13035_J226 (k175 : Nat → Int32 → Int32 → Int32 → Int32 → Int32 → Int32 → Nat → Nat → Int32 → Int32 → Nat → Nat → Lx → Option (Lx × Int32)) (l0 : Nat) (l1 : Int32) (l2 : Int32) (l3 : Int32) (l4 : Int32) (l5 : Int32) (l6 : Int32) (l7 : Nat) (l8 : Nat) (l9 : Int32) (l10 : Int32) (l11 : Int32) (k0 : Int32) (bc bs : Nat) (S : Lx) : Option (Lx × Int32) :=
  if k0 = l4 then
    gd (tK S.1 l0 = 12) <|
    bP (h_11013 l0 S.1) fun r23 =>
    if r23 = ((l11 - l1) + l5) then
      gd (tK S.1 l0 = 12) <|
      bP (h_11011 l0 S.1) fun r25 =>
      if r25 = l6 then
        l_13035_L264 k175 40 l0 l1 l2 l3 l4 l5 l6 l7 l8 1 l10 l11 0 bc bs S
      else
        l_13035_L264 k175 40 l0 l1 l2 l3 l4 l5 l6 l7 l8 0 l10 l11 0 bc bs S
    else
      l_13035_L264 k175 40 l0 l1 l2 l3 l4 l5 l6 l7 l8 0 l10 l11 0 bc bs S
  else
    l_13035_L264 k175 40 l0 l1 l2 l3 l4 l5 l6 l7 l8 0 l10 l11 0 bc bs S
def l_13035_J199 (k175 : Nat → Int32 → Int32 → Int32 → Int32 → Int32 → Int32 → Nat → Nat → Int32 → Int32 → Nat → Nat → Lx → Option (Lx × Int32)) (l0 : Nat) (l1 : Int32) (l2 : Int32) (l3 : Int32) (l4 : Int32) (l5 : Int32) (l6 : Int32) (l7 : Nat) (l8 : Nat) (l9 : Int32) (l10 : Int32) (k0 : Int32) (bc bs : Nat) (S : Lx) : Option (Lx × Int32) :=
  if l10 = 1 then
    gd (tK S.1 l0 = 12) <|
    gd ((42 : Nat) ≤ bc ∧ 3712 ≤ bs) <|
    bO (h_13006 l0 k0 l2 l3 S.1) fun T29 r29 => bS (lT S T29) fun S29 =>
    l_13035_J226 k175 l0 l1 l2 l3 l4 l5 l6 l7 l8 l9 l10 k0 r29 (bc - 42) (bs - 3712) S29
  else
    gd (tK S.1 l0 = 12) <|
    gd ((42 : Nat) ≤ bc ∧ 3712 ≤ bs) <|
    bO (h_13007 l0 k0 l2 l3 S.1) fun T28 r28 => bS (lT S T28) fun S28 =>
    l_13035_J226 k175 l0 l1 l2 l3 l4 l5 l6 l7 l8 l9 l10 k0 r28 (bc - 42) (bs - 3712) S28
def l_13035_L175 : Nat → Nat → Int32 → Int32 → Int32 → Int32 → Int32 → Int32 → Nat → Nat → Int32 → Int32 → Nat → Nat → Lx → Option (Lx × Int32)
  | 0, _, _, _, _, _, _, _, _, _, _, _, _, _, _ => none
  | n + 1, l0, l1, l2, l3, l4, l5, l6, l7, l8, l9, l10, bc, bs, S =>
    if 3 ≤ l10 then
      l_13035_J351 l0 l1 l2 l3 l4 l5 l6 l7 l8 l9 l10 bc bs S
    else
      if l9 = 0 then
        l_13035_J351 l0 l1 l2 l3 l4 l5 l6 l7 l8 l9 l10 bc bs S
      else
        if l10 = 0 then
          l_13035_J199 (l_13035_L175 n) l0 l1 l2 l3 l4 l5 l6 l7 l8 l9 l10 l1 bc bs S
        else
          l_13035_J199 (l_13035_L175 n) l0 l1 l2 l3 l4 l5 l6 l7 l8 l9 l10 (l1 - l5) bc bs S
def l_13035_L148 : Nat → Nat → Int32 → Int32 → Int32 → Int32 → Int32 → Int32 → Nat → Nat → Int32 → Int32 → Nat → Nat → Lx → Option (Lx × Int32)
  | 0, _, _, _, _, _, _, _, _, _, _, _, _, _, _ => none
  | n + 1, l0, l1, l2, l3, l4, l5, l6, l7, l8, l9, l10, bc, bs, S =>
    if 32 ≤ l10 then
      l_13035_L175 40 l0 l1 l2 l3 l4 l5 l6 l7 l8 l9 0 bc bs S
    else
      gd (tK S.1 l0 = 12) <|
      gd ((1 : Nat) ≤ bc ∧ 6 ≤ bs) <|
      bP (h_13009 l0 l10 S.1) fun r34 =>
      gd (vi l10 (S.2 l8).length) <|
      bS (lSet S l8 l10 r34) fun S35 =>
      l_13035_L148 n l0 l1 l2 l3 l4 l5 l6 l7 l8 l9 (l10 + 1) (bc - 1) (bs - 6) S35
def l_13035_L121 : Nat → Nat → Int32 → Int32 → Int32 → Int32 → Int32 → Int32 → Nat → Nat → Int32 → Int32 → Nat → Nat → Lx → Option (Lx × Int32)
  | 0, _, _, _, _, _, _, _, _, _, _, _, _, _, _ => none
  | n + 1, l0, l1, l2, l3, l4, l5, l6, l7, l8, l9, l10, bc, bs, S =>
    if l6 ≤ l10 then
      l_13035_L148 40 l0 l1 l2 l3 l4 l5 l6 l7 l8 l9 0 bc bs S
    else
      gd (tK S.1 l0 = 12) <|
      gd ((1 : Nat) ≤ bc ∧ 6 ≤ bs) <|
      bP (h_13008 l0 l10 S.1) fun r37 =>
      gd (vi l10 (S.2 l7).length) <|
      bS (lSet S l7 l10 r37) fun S38 =>
      l_13035_L121 n l0 l1 l2 l3 l4 l5 l6 l7 l8 l9 (l10 + 1) (bc - 1) (bs - 6) S38
def l_13035_J79 (l0 : Nat) (l1 : Int32) (l2 : Int32) (l3 : Int32) (l4 : Int32) (l5 : Int32) (l6 : Int32) (l7 : Nat) (l8 : Nat) (bc bs : Nat) (S : Lx) : Option (Lx × Int32) :=
  gd (tK S.1 l0 = 12) <|
  gd ((1 : Nat) ≤ bc ∧ 6 ≤ bs) <|
  bP (h_13008 l0 l6 S.1) fun r39 =>
  if r39 = (-1000001) then
    gd (tK S.1 l0 = 12) <|
    gd ((1 : Nat) ≤ (bc - 1) ∧ 6 ≤ (bs - 6)) <|
    bP (h_13008 l0 (-1) S.1) fun r41 =>
    if r41 = (-1000001) then
      gd (tK S.1 l0 = 12) <|
      gd ((1 : Nat) ≤ ((bc - 1) - 1) ∧ 6 ≤ ((bs - 6) - 6)) <|
      bP (h_13009 l0 32 S.1) fun r43 =>
      if r43 = (-1000001) then
        l_13035_L121 40 l0 l1 l2 l3 l4 l5 l6 l7 l8 1 0 (((bc - 1) - 1) - 1) (((bs - 6) - 6) - 6) S
      else
        l_13035_L121 40 l0 l1 l2 l3 l4 l5 l6 l7 l8 0 0 (((bc - 1) - 1) - 1) (((bs - 6) - 6) - 6) S
    else
      l_13035_L121 40 l0 l1 l2 l3 l4 l5 l6 l7 l8 0 0 ((bc - 1) - 1) ((bs - 6) - 6) S
  else
    l_13035_L121 40 l0 l1 l2 l3 l4 l5 l6 l7 l8 0 0 (bc - 1) (bs - 6) S
def l_13035 (x0 : Nat) (x1 : Int32) (x2 : Int32) (x3 : Int32) (S : Lx) : Option (Lx × Int32) :=
  gd (tK S.1 x0 = 12) <|
  bO (h_13006 x0 x1 x2 x3 S.1) fun T45 r45 => bS (lT S T45) fun S45 =>
  gd (tK S45.1 x0 = 12) <|
  bP (h_11013 x0 S45.1) fun r46 =>
  gd (tK S45.1 x0 = 12) <|
  bP (h_11011 x0 S45.1) fun r47 =>
  bS (lNew S45 8) fun S48 =>
  bS (lNew S48 32) fun S49 =>
  if r45 < 0 then
    l_13035_L121 40 x0 x1 x2 x3 r45 r46 r47 (tZ S45.1) (tZ S48.1) 0 0 416 16248 S49
  else
    if 8 ≤ r45 then
      l_13035_L121 40 x0 x1 x2 x3 r45 r46 r47 (tZ S45.1) (tZ S48.1) 0 0 416 16248 S49
    else
      if r46 < 0 then
        l_13035_L121 40 x0 x1 x2 x3 r45 r46 r47 (tZ S45.1) (tZ S48.1) 0 0 416 16248 S49
      else
        if x1 < r46 then
          l_13035_L121 40 x0 x1 x2 x3 r45 r46 r47 (tZ S45.1) (tZ S48.1) 0 0 416 16248 S49
        else
          if r47 < 0 then
            l_13035_L121 40 x0 x1 x2 x3 r45 r46 r47 (tZ S45.1) (tZ S48.1) 0 0 416 16248 S49
          else
            if 9 ≤ r47 then
              l_13035_L121 40 x0 x1 x2 x3 r45 r46 r47 (tZ S45.1) (tZ S48.1) 0 0 416 16248 S49
            else
              if r45 = 1 then
                if r46 = 0 then
                  l_13035_J79 x0 x1 x2 x3 r45 r46 r47 (tZ S45.1) (tZ S48.1) 416 16248 S49
                else
                  l_13035_L121 40 x0 x1 x2 x3 r45 r46 r47 (tZ S45.1) (tZ S48.1) 0 0 416 16248 S49
              else
                l_13035_J79 x0 x1 x2 x3 r45 r46 r47 (tZ S45.1) (tZ S48.1) 416 16248 S49
set_option maxRecDepth 8000 in
theorem sl_13035 {d : Nat} {G : ab_G} {S : Lx} {P : ab_Pq} {X : ab_Xq} (h2 : LRep G S) {x0 : Nat} {x1 : Int32} {x2 : Int32} {x3 : Int32} {o : Lx × Int32} (ho : l_13035 x0 x1 x2 x3 S = some o) (h : ∀ G1, (o.2 = 0 ∨ o.2 = 1) → LRep G1 o.1 → P G1 (some (.int o.2))) : ab_Gam (d + 917) 13035 [.ref x0, .int x1, .int x2, .int x3] G P X := by
  unfold l_13035 at ho
  refine ab_enter (I := i13035) rfl (Nat.le_of_ble_eq_true rfl) (fun R hR => ?_)
  have h13035_L404 : ∀ (n : Nat) (l0 : Nat) (l1 : Int32) (l2 : Int32) (l3 : Int32) (l4 : Int32) (l5 : Int32) (l6 : Int32) (l7 : Nat) (l8 : Nat) (l9 : Int32) (l10 : Int32) (w11 : Option Value) (w12 : Option Value) (S : Lx) (Ga : ab_G) (bc bs : Nat) (h2 : LRep Ga S) (ho : l_13035_L404 n l0 l1 l2 l3 l4 l5 l6 l7 l8 l9 l10 bc bs S = some o), R 404 [some (.ref l0), some (.int l1), some (.int l2), some (.int l3), some (.int l4), some (.int l5), some (.int l6), some (.ref l7), some (.ref l8), some (.int l9), some (.int l10), w11, w12] [] Ga bc bs := by
    intro n
    induction n with
    | zero => intro l0 l1 l2 l3 l4 l5 l6 l7 l8 l9 l10 w11 w12 S Ga bc bs h2 ho; exact absurd ho (by intro hc; cases hc)
    | succ n404 ih404 =>
      intro l0 l1 l2 l3 l4 l5 l6 l7 l8 l9 l10 w11 w12 S Ga bc bs h2 ho
      rw [l_13035_L404] at ho
      refine us_iload hR dL_tries_404 rfl ?_
      refine us_aload_n hR dL_tries_406 rfl ?_
      have hg := gd_c ho
      rw [gd_e hg] at ho
      refine us_callV hR dL_tries_407 (y := 11011) (by decide +kernel) (by decide) (J := i11011) rfl rfl rfl rfl (H_kind1 h2.1 hg (by decide)) rfl (Nat.le_of_ble_eq_true rfl) (Nat.zero_le _) (Nat.zero_le _) ?_
      obtain ⟨r1, hr1⟩ := bP_ex ho
      replace ho := bP_go ho hr1
      refine sh_11011 h2.1 hr1 ?_
      refine us_icmp_ge hR dL_tries_410 445 (by decide) (fun c2 => ?_) (fun c2 => ?_)
      · rw [if_pos c2] at ho
        refine us_iload hR dL_tries_445 rfl ?_
        have hg := gd_c ho
        rw [gd_e hg] at ho
        refine us_iret hR dL_tries_447 rfl (nar01 hg) ?_
        cases ho
        exact h _ hg h2
      · rw [if_neg c2] at ho
        refine us_iload hR dL_tries_413 rfl ?_
        refine us_if_eq hR dL_tries_415 436 (by decide) (fun c3 => ?_) (fun c3 => ?_)
        · rw [if_pos c3] at ho
          refine us_iconstC hR dL_tries_436 (c := 0) (by decide) ?_
          refine us_istore hR dL_tries_437 (Nat.le_of_ble_eq_true rfl) ?_
          refine us_iincC hR dL_tries_439 rfl (Nat.le_of_ble_eq_true rfl) (c := 1) (by decide) ?_
          refine us_goto hR dL_tries_442 404 (by decide) ?_
          exact ih404 l0 l1 l2 l3 l4 l5 l6 l7 l8 0 (l10 + 1) _ _ S Ga _ _ h2 ho
        · rw [if_neg c3] at ho
          refine us_aload_n hR dL_tries_418 rfl ?_
          refine us_iload hR dL_tries_419 rfl ?_
          have hg := gd_c ho
          rw [gd_e hg] at ho
          have hme := hg
          have hb := gd_c ho
          rw [gd_e hb] at ho
          refine us_callS hR dL_tries_421 (y := 13008) (by decide +kernel) (by decide) (J := i13008) rfl rfl rfl rfl (rest := _) (Nat.le_of_ble_eq_true rfl) hb.1 hb.2 ?_
          obtain ⟨r4, hr4⟩ := bP_ex ho
          replace ho := bP_go ho hr4
          refine sh_13008 h2.1 hme hr4 ?_
          refine us_aload hR dL_tries_424 rfl ?_
          refine us_iload hR dL_tries_426 rfl ?_
          have hg := gd_c ho
          rw [gd_e hg] at ho
          refine ul_iaload h2 hg hR dL_tries_428 ?_
          refine us_icmp_ne hR dL_tries_429 436 (by decide) (fun c5 => ?_) (fun c5 => ?_)
          · rw [if_neg c5] at ho
            refine us_iconstC hR dL_tries_436 (c := 0) (by decide) ?_
            refine us_istore hR dL_tries_437 (Nat.le_of_ble_eq_true rfl) ?_
            refine us_iincC hR dL_tries_439 rfl (Nat.le_of_ble_eq_true rfl) (c := 1) (by decide) ?_
            refine us_goto hR dL_tries_442 404 (by decide) ?_
            exact ih404 l0 l1 l2 l3 l4 l5 l6 l7 l8 0 (l10 + 1) _ _ S Ga _ _ h2 ho
          · rw [if_pos c5] at ho
            refine us_iconstC hR dL_tries_432 (c := 1) (by decide) ?_
            refine us_goto hR dL_tries_433 437 (by decide) ?_
            refine us_istore hR dL_tries_437 (Nat.le_of_ble_eq_true rfl) ?_
            refine us_iincC hR dL_tries_439 rfl (Nat.le_of_ble_eq_true rfl) (c := 1) (by decide) ?_
            refine us_goto hR dL_tries_442 404 (by decide) ?_
            exact ih404 l0 l1 l2 l3 l4 l5 l6 l7 l8 1 (l10 + 1) _ _ S Ga _ _ h2 ho
  have h13035_J351 : ∀ (l0 : Nat) (l1 : Int32) (l2 : Int32) (l3 : Int32) (l4 : Int32) (l5 : Int32) (l6 : Int32) (l7 : Nat) (l8 : Nat) (l9 : Int32) (l10 : Int32) (w11 : Option Value) (w12 : Option Value) (S : Lx) (Ga : ab_G) (bc bs : Nat) (h2 : LRep Ga S) (ho : l_13035_J351 l0 l1 l2 l3 l4 l5 l6 l7 l8 l9 l10 bc bs S = some o), R 351 [some (.ref l0), some (.int l1), some (.int l2), some (.int l3), some (.int l4), some (.int l5), some (.int l6), some (.ref l7), some (.ref l8), some (.int l9), some (.int l10), w11, w12] [] Ga bc bs := by
    intro l0 l1 l2 l3 l4 l5 l6 l7 l8 l9 l10 w11 w12 S Ga bc bs h2 ho
    unfold l_13035_J351 at ho
    refine us_iload hR dL_tries_351 rfl ?_
    refine us_if_eq hR dL_tries_353 445 (by decide) (fun c6 => ?_) (fun c6 => ?_)
    · rw [if_pos c6] at ho
      refine us_iload hR dL_tries_445 rfl ?_
      have hg := gd_c ho
      rw [gd_e hg] at ho
      refine us_iret hR dL_tries_447 rfl (nar01 hg) ?_
      cases ho
      exact h _ hg h2
    · rw [if_neg c6] at ho
      refine us_iload_n hR dL_tries_356 rfl ?_
      refine us_iload hR dL_tries_357 rfl ?_
      refine us_icmp_le hR dL_tries_359 445 (by decide) (fun c7 => ?_) (fun c7 => ?_)
      · rw [if_pos c7] at ho
        refine us_iload hR dL_tries_445 rfl ?_
        have hg := gd_c ho
        rw [gd_e hg] at ho
        refine us_iret hR dL_tries_447 rfl (nar01 hg) ?_
        cases ho
        exact h _ hg h2
      · rw [if_neg c7] at ho
        refine us_aload_n hR dL_tries_362 rfl ?_
        refine us_iload_n hR dL_tries_363 rfl ?_
        refine us_iload hR dL_tries_364 rfl ?_
        refine us_isub hR dL_tries_366 ?_
        refine us_iconstC hR dL_tries_367 (c := 1) (by decide) ?_
        refine us_isub hR dL_tries_368 ?_
        refine us_iload_n hR dL_tries_369 rfl ?_
        refine us_iload_n hR dL_tries_370 rfl ?_
        have hg := gd_c ho
        rw [gd_e hg] at ho
        have hme := hg
        have hb := gd_c ho
        rw [gd_e hb] at ho
        refine us_callS hR dL_tries_371 (y := 13006) (by decide +kernel) (by decide) (J := i13006) rfl rfl rfl rfl (rest := _) (Nat.le_of_ble_eq_true rfl) hb.1 hb.2 ?_
        obtain ⟨q8, hs8⟩ := bO_ex ho
        obtain ⟨T8, r8⟩ := q8
        replace ho := bO_go ho hs8
        refine sh_13006 h2.1 hme hs8 (fun G8 h38 hF8 => ?_)
        have h28 := h2.cls h38 hF8
        obtain ⟨S8, hS8⟩ : ∃ Sz, Sz = lT S T8 := ⟨_, rfl⟩
        rw [bS_eq, ← hS8] at ho
        rw [← hS8] at h28
        refine us_iconstC hR dL_tries_374 (c := 1) (by decide) ?_
        refine us_icmp_ne hR dL_tries_375 398 (by decide) (fun c9 => ?_) (fun c9 => ?_)
        · rw [if_neg c9] at ho
          refine us_iconstC hR dL_tries_398 (c := 0) (by decide) ?_
          refine us_istore hR dL_tries_399 (Nat.le_of_ble_eq_true rfl) ?_
          refine us_iconstC hR dL_tries_401 (c := 0) (by decide) ?_
          refine us_istore hR dL_tries_402 (Nat.le_of_ble_eq_true rfl) ?_
          exact h13035_L404 _ l0 l1 l2 l3 l4 l5 l6 l7 l8 0 0 _ _ S8 G8 _ _ h28 ho
        · rw [if_pos c9] at ho
          refine us_aload_n hR dL_tries_378 rfl ?_
          have hg := gd_c ho
          rw [gd_e hg] at ho
          refine us_callV hR dL_tries_379 (y := 11013) (by decide +kernel) (by decide) (J := i11013) rfl rfl rfl rfl (H_kind1 h28.1 hg (by decide)) rfl (Nat.le_of_ble_eq_true rfl) (Nat.zero_le _) (Nat.zero_le _) ?_
          obtain ⟨r10, hr10⟩ := bP_ex ho
          replace ho := bP_go ho hr10
          refine sh_11013 h28.1 hr10 ?_
          refine us_if_ne hR dL_tries_382 398 (by decide) (fun c11 => ?_) (fun c11 => ?_)
          · rw [if_neg c11] at ho
            refine us_iconstC hR dL_tries_398 (c := 0) (by decide) ?_
            refine us_istore hR dL_tries_399 (Nat.le_of_ble_eq_true rfl) ?_
            refine us_iconstC hR dL_tries_401 (c := 0) (by decide) ?_
            refine us_istore hR dL_tries_402 (Nat.le_of_ble_eq_true rfl) ?_
            exact h13035_L404 _ l0 l1 l2 l3 l4 l5 l6 l7 l8 0 0 _ _ S8 G8 _ _ h28 ho
          · rw [if_pos c11] at ho
            refine us_aload_n hR dL_tries_385 rfl ?_
            have hg := gd_c ho
            rw [gd_e hg] at ho
            refine us_callV hR dL_tries_386 (y := 11011) (by decide +kernel) (by decide) (J := i11011) rfl rfl rfl rfl (H_kind1 h28.1 hg (by decide)) rfl (Nat.le_of_ble_eq_true rfl) (Nat.zero_le _) (Nat.zero_le _) ?_
            obtain ⟨r12, hr12⟩ := bP_ex ho
            replace ho := bP_go ho hr12
            refine sh_11011 h28.1 hr12 ?_
            refine us_iload hR dL_tries_389 rfl ?_
            refine us_icmp_gt hR dL_tries_391 398 (by decide) (fun c13 => ?_) (fun c13 => ?_)
            · rw [if_pos c13] at ho
              refine us_iconstC hR dL_tries_398 (c := 0) (by decide) ?_
              refine us_istore hR dL_tries_399 (Nat.le_of_ble_eq_true rfl) ?_
              refine us_iconstC hR dL_tries_401 (c := 0) (by decide) ?_
              refine us_istore hR dL_tries_402 (Nat.le_of_ble_eq_true rfl) ?_
              exact h13035_L404 _ l0 l1 l2 l3 l4 l5 l6 l7 l8 0 0 _ _ S8 G8 _ _ h28 ho
            · rw [if_neg c13] at ho
              refine us_iconstC hR dL_tries_394 (c := 1) (by decide) ?_
              refine us_goto hR dL_tries_395 399 (by decide) ?_
              refine us_istore hR dL_tries_399 (Nat.le_of_ble_eq_true rfl) ?_
              refine us_iconstC hR dL_tries_401 (c := 0) (by decide) ?_
              refine us_istore hR dL_tries_402 (Nat.le_of_ble_eq_true rfl) ?_
              exact h13035_L404 _ l0 l1 l2 l3 l4 l5 l6 l7 l8 1 0 _ _ S8 G8 _ _ h28 ho
  have h13035_L175 : ∀ (n : Nat) (l0 : Nat) (l1 : Int32) (l2 : Int32) (l3 : Int32) (l4 : Int32) (l5 : Int32) (l6 : Int32) (l7 : Nat) (l8 : Nat) (l9 : Int32) (l10 : Int32) (w11 : Option Value) (w12 : Option Value) (S : Lx) (Ga : ab_G) (bc bs : Nat) (h2 : LRep Ga S) (ho : l_13035_L175 n l0 l1 l2 l3 l4 l5 l6 l7 l8 l9 l10 bc bs S = some o), R 175 [some (.ref l0), some (.int l1), some (.int l2), some (.int l3), some (.int l4), some (.int l5), some (.int l6), some (.ref l7), some (.ref l8), some (.int l9), some (.int l10), w11, w12] [] Ga bc bs := by
    intro n
    induction n with
    | zero => intro l0 l1 l2 l3 l4 l5 l6 l7 l8 l9 l10 w11 w12 S Ga bc bs h2 ho; exact absurd ho (by intro hc; cases hc)
    | succ n175 ih175 =>
      have h13035_L306 : ∀ (n : Nat) (l0 : Nat) (l1 : Int32) (l2 : Int32) (l3 : Int32) (l4 : Int32) (l5 : Int32) (l6 : Int32) (l7 : Nat) (l8 : Nat) (l9 : Int32) (l10 : Int32) (l11 : Int32) (l12 : Int32)  (S : Lx) (Ga : ab_G) (bc bs : Nat) (h2 : LRep Ga S) (ho : l_13035_L306 (l_13035_L175 n175) n l0 l1 l2 l3 l4 l5 l6 l7 l8 l9 l10 l11 l12 bc bs S = some o), R 306 [some (.ref l0), some (.int l1), some (.int l2), some (.int l3), some (.int l4), some (.int l5), some (.int l6), some (.ref l7), some (.ref l8), some (.int l9), some (.int l10), some (.int l11), some (.int l12)] [] Ga bc bs := by
        intro n
        induction n with
        | zero => intro l0 l1 l2 l3 l4 l5 l6 l7 l8 l9 l10 l11 l12  S Ga bc bs h2 ho; exact absurd ho (by intro hc; cases hc)
        | succ n306 ih306 =>
          intro l0 l1 l2 l3 l4 l5 l6 l7 l8 l9 l10 l11 l12  S Ga bc bs h2 ho
          rw [l_13035_L306] at ho
          refine us_iload hR dL_tries_306 rfl ?_
          refine us_bipushC hR dL_tries_308 (c := 32) (by decide) ?_
          refine us_icmp_ge hR dL_tries_310 345 (by decide) (fun c14 => ?_) (fun c14 => ?_)
          · rw [if_pos c14] at ho
            refine us_iincC hR dL_tries_345 rfl (Nat.le_of_ble_eq_true rfl) (c := 1) (by decide) ?_
            refine us_goto hR dL_tries_348 175 (by decide) ?_
            exact ih175 l0 l1 l2 l3 l4 l5 l6 l7 l8 l9 (l10 + 1) _ _ S Ga _ _ h2 ho
          · rw [if_neg c14] at ho
            refine us_iload hR dL_tries_313 rfl ?_
            refine us_if_eq hR dL_tries_315 336 (by decide) (fun c15 => ?_) (fun c15 => ?_)
            · rw [if_pos c15] at ho
              refine us_iconstC hR dL_tries_336 (c := 0) (by decide) ?_
              refine us_istore hR dL_tries_337 (Nat.le_of_ble_eq_true rfl) ?_
              refine us_iincC hR dL_tries_339 rfl (Nat.le_of_ble_eq_true rfl) (c := 1) (by decide) ?_
              refine us_goto hR dL_tries_342 306 (by decide) ?_
              exact ih306 l0 l1 l2 l3 l4 l5 l6 l7 l8 0 l10 l11 (l12 + 1)  S Ga _ _ h2 ho
            · rw [if_neg c15] at ho
              refine us_aload_n hR dL_tries_318 rfl ?_
              refine us_iload hR dL_tries_319 rfl ?_
              have hg := gd_c ho
              rw [gd_e hg] at ho
              have hme := hg
              have hb := gd_c ho
              rw [gd_e hb] at ho
              refine us_callS hR dL_tries_321 (y := 13009) (by decide +kernel) (by decide) (J := i13009) rfl rfl rfl rfl (rest := _) (Nat.le_of_ble_eq_true rfl) hb.1 hb.2 ?_
              obtain ⟨r16, hr16⟩ := bP_ex ho
              replace ho := bP_go ho hr16
              refine sh_13009 h2.1 hme hr16 ?_
              refine us_aload hR dL_tries_324 rfl ?_
              refine us_iload hR dL_tries_326 rfl ?_
              have hg := gd_c ho
              rw [gd_e hg] at ho
              refine ul_iaload h2 hg hR dL_tries_328 ?_
              refine us_icmp_ne hR dL_tries_329 336 (by decide) (fun c17 => ?_) (fun c17 => ?_)
              · rw [if_neg c17] at ho
                refine us_iconstC hR dL_tries_336 (c := 0) (by decide) ?_
                refine us_istore hR dL_tries_337 (Nat.le_of_ble_eq_true rfl) ?_
                refine us_iincC hR dL_tries_339 rfl (Nat.le_of_ble_eq_true rfl) (c := 1) (by decide) ?_
                refine us_goto hR dL_tries_342 306 (by decide) ?_
                exact ih306 l0 l1 l2 l3 l4 l5 l6 l7 l8 0 l10 l11 (l12 + 1)  S Ga _ _ h2 ho
              · rw [if_pos c17] at ho
                refine us_iconstC hR dL_tries_332 (c := 1) (by decide) ?_
                refine us_goto hR dL_tries_333 337 (by decide) ?_
                refine us_istore hR dL_tries_337 (Nat.le_of_ble_eq_true rfl) ?_
                refine us_iincC hR dL_tries_339 rfl (Nat.le_of_ble_eq_true rfl) (c := 1) (by decide) ?_
                refine us_goto hR dL_tries_342 306 (by decide) ?_
                exact ih306 l0 l1 l2 l3 l4 l5 l6 l7 l8 1 l10 l11 (l12 + 1)  S Ga _ _ h2 ho
      have h13035_L264 : ∀ (n : Nat) (l0 : Nat) (l1 : Int32) (l2 : Int32) (l3 : Int32) (l4 : Int32) (l5 : Int32) (l6 : Int32) (l7 : Nat) (l8 : Nat) (l9 : Int32) (l10 : Int32) (l11 : Int32) (l12 : Int32)  (S : Lx) (Ga : ab_G) (bc bs : Nat) (h2 : LRep Ga S) (ho : l_13035_L264 (l_13035_L175 n175) n l0 l1 l2 l3 l4 l5 l6 l7 l8 l9 l10 l11 l12 bc bs S = some o), R 264 [some (.ref l0), some (.int l1), some (.int l2), some (.int l3), some (.int l4), some (.int l5), some (.int l6), some (.ref l7), some (.ref l8), some (.int l9), some (.int l10), some (.int l11), some (.int l12)] [] Ga bc bs := by
        intro n
        induction n with
        | zero => intro l0 l1 l2 l3 l4 l5 l6 l7 l8 l9 l10 l11 l12  S Ga bc bs h2 ho; exact absurd ho (by intro hc; cases hc)
        | succ n264 ih264 =>
          intro l0 l1 l2 l3 l4 l5 l6 l7 l8 l9 l10 l11 l12  S Ga bc bs h2 ho
          rw [l_13035_L264] at ho
          refine us_iload hR dL_tries_264 rfl ?_
          refine us_iload hR dL_tries_266 rfl ?_
          refine us_icmp_ge hR dL_tries_268 303 (by decide) (fun c18 => ?_) (fun c18 => ?_)
          · rw [if_pos c18] at ho
            refine us_iconstC hR dL_tries_303 (c := 0) (by decide) ?_
            refine us_istore hR dL_tries_304 (Nat.le_of_ble_eq_true rfl) ?_
            exact h13035_L306 _ l0 l1 l2 l3 l4 l5 l6 l7 l8 l9 l10 l11 0  S Ga _ _ h2 ho
          · rw [if_neg c18] at ho
            refine us_iload hR dL_tries_271 rfl ?_
            refine us_if_eq hR dL_tries_273 294 (by decide) (fun c19 => ?_) (fun c19 => ?_)
            · rw [if_pos c19] at ho
              refine us_iconstC hR dL_tries_294 (c := 0) (by decide) ?_
              refine us_istore hR dL_tries_295 (Nat.le_of_ble_eq_true rfl) ?_
              refine us_iincC hR dL_tries_297 rfl (Nat.le_of_ble_eq_true rfl) (c := 1) (by decide) ?_
              refine us_goto hR dL_tries_300 264 (by decide) ?_
              exact ih264 l0 l1 l2 l3 l4 l5 l6 l7 l8 0 l10 l11 (l12 + 1)  S Ga _ _ h2 ho
            · rw [if_neg c19] at ho
              refine us_aload_n hR dL_tries_276 rfl ?_
              refine us_iload hR dL_tries_277 rfl ?_
              have hg := gd_c ho
              rw [gd_e hg] at ho
              have hme := hg
              have hb := gd_c ho
              rw [gd_e hb] at ho
              refine us_callS hR dL_tries_279 (y := 13008) (by decide +kernel) (by decide) (J := i13008) rfl rfl rfl rfl (rest := _) (Nat.le_of_ble_eq_true rfl) hb.1 hb.2 ?_
              obtain ⟨r20, hr20⟩ := bP_ex ho
              replace ho := bP_go ho hr20
              refine sh_13008 h2.1 hme hr20 ?_
              refine us_aload hR dL_tries_282 rfl ?_
              refine us_iload hR dL_tries_284 rfl ?_
              have hg := gd_c ho
              rw [gd_e hg] at ho
              refine ul_iaload h2 hg hR dL_tries_286 ?_
              refine us_icmp_ne hR dL_tries_287 294 (by decide) (fun c21 => ?_) (fun c21 => ?_)
              · rw [if_neg c21] at ho
                refine us_iconstC hR dL_tries_294 (c := 0) (by decide) ?_
                refine us_istore hR dL_tries_295 (Nat.le_of_ble_eq_true rfl) ?_
                refine us_iincC hR dL_tries_297 rfl (Nat.le_of_ble_eq_true rfl) (c := 1) (by decide) ?_
                refine us_goto hR dL_tries_300 264 (by decide) ?_
                exact ih264 l0 l1 l2 l3 l4 l5 l6 l7 l8 0 l10 l11 (l12 + 1)  S Ga _ _ h2 ho
              · rw [if_pos c21] at ho
                refine us_iconstC hR dL_tries_290 (c := 1) (by decide) ?_
                refine us_goto hR dL_tries_291 295 (by decide) ?_
                refine us_istore hR dL_tries_295 (Nat.le_of_ble_eq_true rfl) ?_
                refine us_iincC hR dL_tries_297 rfl (Nat.le_of_ble_eq_true rfl) (c := 1) (by decide) ?_
                refine us_goto hR dL_tries_300 264 (by decide) ?_
                exact ih264 l0 l1 l2 l3 l4 l5 l6 l7 l8 1 l10 l11 (l12 + 1)  S Ga _ _ h2 ho
      have h13035_J226 : ∀ (l0 : Nat) (l1 : Int32) (l2 : Int32) (l3 : Int32) (l4 : Int32) (l5 : Int32) (l6 : Int32) (l7 : Nat) (l8 : Nat) (l9 : Int32) (l10 : Int32) (l11 : Int32) (k0 : Int32) (w12 : Option Value) (S : Lx) (Ga : ab_G) (bc bs : Nat) (h2 : LRep Ga S) (ho : l_13035_J226 (l_13035_L175 n175) l0 l1 l2 l3 l4 l5 l6 l7 l8 l9 l10 l11 k0 bc bs S = some o), R 226 [some (.ref l0), some (.int l1), some (.int l2), some (.int l3), some (.int l4), some (.int l5), some (.int l6), some (.ref l7), some (.ref l8), some (.int l9), some (.int l10), some (.int l11), w12] [.int k0] Ga bc bs := by
        intro l0 l1 l2 l3 l4 l5 l6 l7 l8 l9 l10 l11 k0 w12 S Ga bc bs h2 ho
        unfold l_13035_J226 at ho
        refine us_iload hR dL_tries_226 rfl ?_
        refine us_icmp_ne hR dL_tries_228 258 (by decide) (fun c22 => ?_) (fun c22 => ?_)
        · rw [if_neg c22] at ho
          refine us_iconstC hR dL_tries_258 (c := 0) (by decide) ?_
          refine us_istore hR dL_tries_259 (Nat.le_of_ble_eq_true rfl) ?_
          refine us_iconstC hR dL_tries_261 (c := 0) (by decide) ?_
          refine us_istore hR dL_tries_262 (Nat.le_of_ble_eq_true rfl) ?_
          exact h13035_L264 _ l0 l1 l2 l3 l4 l5 l6 l7 l8 0 l10 l11 0  S Ga _ _ h2 ho
        · rw [if_pos c22] at ho
          refine us_aload_n hR dL_tries_231 rfl ?_
          have hg := gd_c ho
          rw [gd_e hg] at ho
          refine us_callV hR dL_tries_232 (y := 11013) (by decide +kernel) (by decide) (J := i11013) rfl rfl rfl rfl (H_kind1 h2.1 hg (by decide)) rfl (Nat.le_of_ble_eq_true rfl) (Nat.zero_le _) (Nat.zero_le _) ?_
          obtain ⟨r23, hr23⟩ := bP_ex ho
          replace ho := bP_go ho hr23
          refine sh_11013 h2.1 hr23 ?_
          refine us_iload hR dL_tries_235 rfl ?_
          refine us_iload_n hR dL_tries_237 rfl ?_
          refine us_isub hR dL_tries_238 ?_
          refine us_iload hR dL_tries_239 rfl ?_
          refine us_iadd hR dL_tries_241 ?_
          refine us_icmp_ne hR dL_tries_242 258 (by decide) (fun c24 => ?_) (fun c24 => ?_)
          · rw [if_neg c24] at ho
            refine us_iconstC hR dL_tries_258 (c := 0) (by decide) ?_
            refine us_istore hR dL_tries_259 (Nat.le_of_ble_eq_true rfl) ?_
            refine us_iconstC hR dL_tries_261 (c := 0) (by decide) ?_
            refine us_istore hR dL_tries_262 (Nat.le_of_ble_eq_true rfl) ?_
            exact h13035_L264 _ l0 l1 l2 l3 l4 l5 l6 l7 l8 0 l10 l11 0  S Ga _ _ h2 ho
          · rw [if_pos c24] at ho
            refine us_aload_n hR dL_tries_245 rfl ?_
            have hg := gd_c ho
            rw [gd_e hg] at ho
            refine us_callV hR dL_tries_246 (y := 11011) (by decide +kernel) (by decide) (J := i11011) rfl rfl rfl rfl (H_kind1 h2.1 hg (by decide)) rfl (Nat.le_of_ble_eq_true rfl) (Nat.zero_le _) (Nat.zero_le _) ?_
            obtain ⟨r25, hr25⟩ := bP_ex ho
            replace ho := bP_go ho hr25
            refine sh_11011 h2.1 hr25 ?_
            refine us_iload hR dL_tries_249 rfl ?_
            refine us_icmp_ne hR dL_tries_251 258 (by decide) (fun c26 => ?_) (fun c26 => ?_)
            · rw [if_neg c26] at ho
              refine us_iconstC hR dL_tries_258 (c := 0) (by decide) ?_
              refine us_istore hR dL_tries_259 (Nat.le_of_ble_eq_true rfl) ?_
              refine us_iconstC hR dL_tries_261 (c := 0) (by decide) ?_
              refine us_istore hR dL_tries_262 (Nat.le_of_ble_eq_true rfl) ?_
              exact h13035_L264 _ l0 l1 l2 l3 l4 l5 l6 l7 l8 0 l10 l11 0  S Ga _ _ h2 ho
            · rw [if_pos c26] at ho
              refine us_iconstC hR dL_tries_254 (c := 1) (by decide) ?_
              refine us_goto hR dL_tries_255 259 (by decide) ?_
              refine us_istore hR dL_tries_259 (Nat.le_of_ble_eq_true rfl) ?_
              refine us_iconstC hR dL_tries_261 (c := 0) (by decide) ?_
              refine us_istore hR dL_tries_262 (Nat.le_of_ble_eq_true rfl) ?_
              exact h13035_L264 _ l0 l1 l2 l3 l4 l5 l6 l7 l8 1 l10 l11 0  S Ga _ _ h2 ho
      have h13035_J199 : ∀ (l0 : Nat) (l1 : Int32) (l2 : Int32) (l3 : Int32) (l4 : Int32) (l5 : Int32) (l6 : Int32) (l7 : Nat) (l8 : Nat) (l9 : Int32) (l10 : Int32) (k0 : Int32) (w11 : Option Value) (w12 : Option Value) (S : Lx) (Ga : ab_G) (bc bs : Nat) (h2 : LRep Ga S) (ho : l_13035_J199 (l_13035_L175 n175) l0 l1 l2 l3 l4 l5 l6 l7 l8 l9 l10 k0 bc bs S = some o), R 199 [some (.ref l0), some (.int l1), some (.int l2), some (.int l3), some (.int l4), some (.int l5), some (.int l6), some (.ref l7), some (.ref l8), some (.int l9), some (.int l10), w11, w12] [.int k0] Ga bc bs := by
        intro l0 l1 l2 l3 l4 l5 l6 l7 l8 l9 l10 k0 w11 w12 S Ga bc bs h2 ho
        unfold l_13035_J199 at ho
        refine us_istore hR dL_tries_199 (Nat.le_of_ble_eq_true rfl) ?_
        refine us_iload hR dL_tries_201 rfl ?_
        refine us_iconstC hR dL_tries_203 (c := 1) (by decide) ?_
        refine us_icmp_ne hR dL_tries_204 218 (by decide) (fun c27 => ?_) (fun c27 => ?_)
        · rw [if_neg c27] at ho
          refine us_aload_n hR dL_tries_218 rfl ?_
          refine us_iload hR dL_tries_219 rfl ?_
          refine us_iload_n hR dL_tries_221 rfl ?_
          refine us_iload_n hR dL_tries_222 rfl ?_
          have hg := gd_c ho
          rw [gd_e hg] at ho
          have hme := hg
          have hb := gd_c ho
          rw [gd_e hb] at ho
          refine us_callS hR dL_tries_223 (y := 13007) (by decide +kernel) (by decide) (J := i13007) rfl rfl rfl rfl (rest := _) (Nat.le_of_ble_eq_true rfl) hb.1 hb.2 ?_
          obtain ⟨q28, hs28⟩ := bO_ex ho
          obtain ⟨T28, r28⟩ := q28
          replace ho := bO_go ho hs28
          refine sh_13007 h2.1 hme hs28 (fun G28 h328 hF28 => ?_)
          have h228 := h2.cls h328 hF28
          obtain ⟨S28, hS28⟩ : ∃ Sz, Sz = lT S T28 := ⟨_, rfl⟩
          rw [bS_eq, ← hS28] at ho
          rw [← hS28] at h228
          exact h13035_J226 l0 l1 l2 l3 l4 l5 l6 l7 l8 l9 l10 k0 r28 _ S28 G28 _ _ h228 ho
        · rw [if_pos c27] at ho
          refine us_aload_n hR dL_tries_207 rfl ?_
          refine us_iload hR dL_tries_208 rfl ?_
          refine us_iload_n hR dL_tries_210 rfl ?_
          refine us_iload_n hR dL_tries_211 rfl ?_
          have hg := gd_c ho
          rw [gd_e hg] at ho
          have hme := hg
          have hb := gd_c ho
          rw [gd_e hb] at ho
          refine us_callS hR dL_tries_212 (y := 13006) (by decide +kernel) (by decide) (J := i13006) rfl rfl rfl rfl (rest := _) (Nat.le_of_ble_eq_true rfl) hb.1 hb.2 ?_
          obtain ⟨q29, hs29⟩ := bO_ex ho
          obtain ⟨T29, r29⟩ := q29
          replace ho := bO_go ho hs29
          refine sh_13006 h2.1 hme hs29 (fun G29 h329 hF29 => ?_)
          have h229 := h2.cls h329 hF29
          obtain ⟨S29, hS29⟩ : ∃ Sz, Sz = lT S T29 := ⟨_, rfl⟩
          rw [bS_eq, ← hS29] at ho
          rw [← hS29] at h229
          refine us_goto hR dL_tries_215 226 (by decide) ?_
          exact h13035_J226 l0 l1 l2 l3 l4 l5 l6 l7 l8 l9 l10 k0 r29 _ S29 G29 _ _ h229 ho
      intro l0 l1 l2 l3 l4 l5 l6 l7 l8 l9 l10 w11 w12 S Ga bc bs h2 ho
      rw [l_13035_L175] at ho
      refine us_iload hR dL_tries_175 rfl ?_
      refine us_iconstC hR dL_tries_177 (c := 3) (by decide) ?_
      refine us_icmp_ge hR dL_tries_178 351 (by decide) (fun c30 => ?_) (fun c30 => ?_)
      · rw [if_pos c30] at ho
        exact h13035_J351 l0 l1 l2 l3 l4 l5 l6 l7 l8 l9 l10 _ _ S Ga _ _ h2 ho
      · rw [if_neg c30] at ho
        refine us_iload hR dL_tries_181 rfl ?_
        refine us_if_eq hR dL_tries_183 351 (by decide) (fun c31 => ?_) (fun c31 => ?_)
        · rw [if_pos c31] at ho
          exact h13035_J351 l0 l1 l2 l3 l4 l5 l6 l7 l8 l9 l10 _ _ S Ga _ _ h2 ho
        · rw [if_neg c31] at ho
          refine us_iload hR dL_tries_186 rfl ?_
          refine us_if_ne hR dL_tries_188 195 (by decide) (fun c32 => ?_) (fun c32 => ?_)
          · rw [if_neg c32] at ho
            refine us_iload_n hR dL_tries_195 rfl ?_
            refine us_iload hR dL_tries_196 rfl ?_
            refine us_isub hR dL_tries_198 ?_
            exact h13035_J199 l0 l1 l2 l3 l4 l5 l6 l7 l8 l9 l10 (l1 - l5) _ _ S Ga _ _ h2 ho
          · rw [if_pos c32] at ho
            refine us_iload_n hR dL_tries_191 rfl ?_
            refine us_goto hR dL_tries_192 199 (by decide) ?_
            exact h13035_J199 l0 l1 l2 l3 l4 l5 l6 l7 l8 l9 l10 l1 _ _ S Ga _ _ h2 ho
  have h13035_L148 : ∀ (n : Nat) (l0 : Nat) (l1 : Int32) (l2 : Int32) (l3 : Int32) (l4 : Int32) (l5 : Int32) (l6 : Int32) (l7 : Nat) (l8 : Nat) (l9 : Int32) (l10 : Int32)  (S : Lx) (Ga : ab_G) (bc bs : Nat) (h2 : LRep Ga S) (ho : l_13035_L148 n l0 l1 l2 l3 l4 l5 l6 l7 l8 l9 l10 bc bs S = some o), R 148 [some (.ref l0), some (.int l1), some (.int l2), some (.int l3), some (.int l4), some (.int l5), some (.int l6), some (.ref l7), some (.ref l8), some (.int l9), some (.int l10), none, none] [] Ga bc bs := by
    intro n
    induction n with
    | zero => intro l0 l1 l2 l3 l4 l5 l6 l7 l8 l9 l10  S Ga bc bs h2 ho; exact absurd ho (by intro hc; cases hc)
    | succ n148 ih148 =>
      intro l0 l1 l2 l3 l4 l5 l6 l7 l8 l9 l10  S Ga bc bs h2 ho
      rw [l_13035_L148] at ho
      refine us_iload hR dL_tries_148 rfl ?_
      refine us_bipushC hR dL_tries_150 (c := 32) (by decide) ?_
      refine us_icmp_ge hR dL_tries_152 172 (by decide) (fun c33 => ?_) (fun c33 => ?_)
      · rw [if_pos c33] at ho
        refine us_iconstC hR dL_tries_172 (c := 0) (by decide) ?_
        refine us_istore hR dL_tries_173 (Nat.le_of_ble_eq_true rfl) ?_
        exact h13035_L175 _ l0 l1 l2 l3 l4 l5 l6 l7 l8 l9 0 _ _ S Ga _ _ h2 ho
      · rw [if_neg c33] at ho
        refine us_aload hR dL_tries_155 rfl ?_
        refine us_iload hR dL_tries_157 rfl ?_
        refine us_aload_n hR dL_tries_159 rfl ?_
        refine us_iload hR dL_tries_160 rfl ?_
        have hg := gd_c ho
        rw [gd_e hg] at ho
        have hme := hg
        have hb := gd_c ho
        rw [gd_e hb] at ho
        refine us_callS hR dL_tries_162 (y := 13009) (by decide +kernel) (by decide) (J := i13009) rfl rfl rfl rfl (rest := _) (Nat.le_of_ble_eq_true rfl) hb.1 hb.2 ?_
        obtain ⟨r34, hr34⟩ := bP_ex ho
        replace ho := bP_go ho hr34
        refine sh_13009 h2.1 hme hr34 ?_
        have hg := gd_c ho
        rw [gd_e hg] at ho
        refine ul_iastore h2 hg hR dL_tries_165 (fun G35 S35 hs35 h235 => ?_)
        rw [← hs35, bS_eq] at ho
        refine us_iincC hR dL_tries_166 rfl (Nat.le_of_ble_eq_true rfl) (c := 1) (by decide) ?_
        refine us_goto hR dL_tries_169 148 (by decide) ?_
        exact ih148 l0 l1 l2 l3 l4 l5 l6 l7 l8 l9 (l10 + 1)  S35 G35 _ _ h235 ho
  have h13035_L121 : ∀ (n : Nat) (l0 : Nat) (l1 : Int32) (l2 : Int32) (l3 : Int32) (l4 : Int32) (l5 : Int32) (l6 : Int32) (l7 : Nat) (l8 : Nat) (l9 : Int32) (l10 : Int32)  (S : Lx) (Ga : ab_G) (bc bs : Nat) (h2 : LRep Ga S) (ho : l_13035_L121 n l0 l1 l2 l3 l4 l5 l6 l7 l8 l9 l10 bc bs S = some o), R 121 [some (.ref l0), some (.int l1), some (.int l2), some (.int l3), some (.int l4), some (.int l5), some (.int l6), some (.ref l7), some (.ref l8), some (.int l9), some (.int l10), none, none] [] Ga bc bs := by
    intro n
    induction n with
    | zero => intro l0 l1 l2 l3 l4 l5 l6 l7 l8 l9 l10  S Ga bc bs h2 ho; exact absurd ho (by intro hc; cases hc)
    | succ n121 ih121 =>
      intro l0 l1 l2 l3 l4 l5 l6 l7 l8 l9 l10  S Ga bc bs h2 ho
      rw [l_13035_L121] at ho
      refine us_iload hR dL_tries_121 rfl ?_
      refine us_iload hR dL_tries_123 rfl ?_
      refine us_icmp_ge hR dL_tries_125 145 (by decide) (fun c36 => ?_) (fun c36 => ?_)
      · rw [if_pos c36] at ho
        refine us_iconstC hR dL_tries_145 (c := 0) (by decide) ?_
        refine us_istore hR dL_tries_146 (Nat.le_of_ble_eq_true rfl) ?_
        exact h13035_L148 _ l0 l1 l2 l3 l4 l5 l6 l7 l8 l9 0  S Ga _ _ h2 ho
      · rw [if_neg c36] at ho
        refine us_aload hR dL_tries_128 rfl ?_
        refine us_iload hR dL_tries_130 rfl ?_
        refine us_aload_n hR dL_tries_132 rfl ?_
        refine us_iload hR dL_tries_133 rfl ?_
        have hg := gd_c ho
        rw [gd_e hg] at ho
        have hme := hg
        have hb := gd_c ho
        rw [gd_e hb] at ho
        refine us_callS hR dL_tries_135 (y := 13008) (by decide +kernel) (by decide) (J := i13008) rfl rfl rfl rfl (rest := _) (Nat.le_of_ble_eq_true rfl) hb.1 hb.2 ?_
        obtain ⟨r37, hr37⟩ := bP_ex ho
        replace ho := bP_go ho hr37
        refine sh_13008 h2.1 hme hr37 ?_
        have hg := gd_c ho
        rw [gd_e hg] at ho
        refine ul_iastore h2 hg hR dL_tries_138 (fun G38 S38 hs38 h238 => ?_)
        rw [← hs38, bS_eq] at ho
        refine us_iincC hR dL_tries_139 rfl (Nat.le_of_ble_eq_true rfl) (c := 1) (by decide) ?_
        refine us_goto hR dL_tries_142 121 (by decide) ?_
        exact ih121 l0 l1 l2 l3 l4 l5 l6 l7 l8 l9 (l10 + 1)  S38 G38 _ _ h238 ho
  have h13035_J79 : ∀ (l0 : Nat) (l1 : Int32) (l2 : Int32) (l3 : Int32) (l4 : Int32) (l5 : Int32) (l6 : Int32) (l7 : Nat) (l8 : Nat)  (S : Lx) (Ga : ab_G) (bc bs : Nat) (h2 : LRep Ga S) (ho : l_13035_J79 l0 l1 l2 l3 l4 l5 l6 l7 l8 bc bs S = some o), R 79 [some (.ref l0), some (.int l1), some (.int l2), some (.int l3), some (.int l4), some (.int l5), some (.int l6), some (.ref l7), some (.ref l8), none, none, none, none] [] Ga bc bs := by
    intro l0 l1 l2 l3 l4 l5 l6 l7 l8  S Ga bc bs h2 ho
    unfold l_13035_J79 at ho
    refine us_aload_n hR dL_tries_79 rfl ?_
    refine us_iload hR dL_tries_80 rfl ?_
    have hg := gd_c ho
    rw [gd_e hg] at ho
    have hme := hg
    have hb := gd_c ho
    rw [gd_e hb] at ho
    refine us_callS hR dL_tries_82 (y := 13008) (by decide +kernel) (by decide) (J := i13008) rfl rfl rfl rfl (rest := _) (Nat.le_of_ble_eq_true rfl) hb.1 hb.2 ?_
    obtain ⟨r39, hr39⟩ := bP_ex ho
    replace ho := bP_go ho hr39
    refine sh_13008 h2.1 hme hr39 ?_
    refine us_ldc hR dL_tries_85 (v := (-1000001)) (by decide +kernel) ?_
    refine us_icmp_ne hR dL_tries_87 115 (by decide) (fun c40 => ?_) (fun c40 => ?_)
    · rw [if_neg c40] at ho
      refine us_iconstC hR dL_tries_115 (c := 0) (by decide) ?_
      refine us_istore hR dL_tries_116 (Nat.le_of_ble_eq_true rfl) ?_
      refine us_iconstC hR dL_tries_118 (c := 0) (by decide) ?_
      refine us_istore hR dL_tries_119 (Nat.le_of_ble_eq_true rfl) ?_
      exact h13035_L121 _ l0 l1 l2 l3 l4 l5 l6 l7 l8 0 0  S Ga _ _ h2 ho
    · rw [if_pos c40] at ho
      refine us_aload_n hR dL_tries_90 rfl ?_
      refine us_iconstC hR dL_tries_91 (c := (-1)) (by decide) ?_
      have hg := gd_c ho
      rw [gd_e hg] at ho
      have hme := hg
      have hb := gd_c ho
      rw [gd_e hb] at ho
      refine us_callS hR dL_tries_92 (y := 13008) (by decide +kernel) (by decide) (J := i13008) rfl rfl rfl rfl (rest := _) (Nat.le_of_ble_eq_true rfl) hb.1 hb.2 ?_
      obtain ⟨r41, hr41⟩ := bP_ex ho
      replace ho := bP_go ho hr41
      refine sh_13008 h2.1 hme hr41 ?_
      refine us_ldc hR dL_tries_95 (v := (-1000001)) (by decide +kernel) ?_
      refine us_icmp_ne hR dL_tries_97 115 (by decide) (fun c42 => ?_) (fun c42 => ?_)
      · rw [if_neg c42] at ho
        refine us_iconstC hR dL_tries_115 (c := 0) (by decide) ?_
        refine us_istore hR dL_tries_116 (Nat.le_of_ble_eq_true rfl) ?_
        refine us_iconstC hR dL_tries_118 (c := 0) (by decide) ?_
        refine us_istore hR dL_tries_119 (Nat.le_of_ble_eq_true rfl) ?_
        exact h13035_L121 _ l0 l1 l2 l3 l4 l5 l6 l7 l8 0 0  S Ga _ _ h2 ho
      · rw [if_pos c42] at ho
        refine us_aload_n hR dL_tries_100 rfl ?_
        refine us_bipushC hR dL_tries_101 (c := 32) (by decide) ?_
        have hg := gd_c ho
        rw [gd_e hg] at ho
        have hme := hg
        have hb := gd_c ho
        rw [gd_e hb] at ho
        refine us_callS hR dL_tries_103 (y := 13009) (by decide +kernel) (by decide) (J := i13009) rfl rfl rfl rfl (rest := _) (Nat.le_of_ble_eq_true rfl) hb.1 hb.2 ?_
        obtain ⟨r43, hr43⟩ := bP_ex ho
        replace ho := bP_go ho hr43
        refine sh_13009 h2.1 hme hr43 ?_
        refine us_ldc hR dL_tries_106 (v := (-1000001)) (by decide +kernel) ?_
        refine us_icmp_ne hR dL_tries_108 115 (by decide) (fun c44 => ?_) (fun c44 => ?_)
        · rw [if_neg c44] at ho
          refine us_iconstC hR dL_tries_115 (c := 0) (by decide) ?_
          refine us_istore hR dL_tries_116 (Nat.le_of_ble_eq_true rfl) ?_
          refine us_iconstC hR dL_tries_118 (c := 0) (by decide) ?_
          refine us_istore hR dL_tries_119 (Nat.le_of_ble_eq_true rfl) ?_
          exact h13035_L121 _ l0 l1 l2 l3 l4 l5 l6 l7 l8 0 0  S Ga _ _ h2 ho
        · rw [if_pos c44] at ho
          refine us_iconstC hR dL_tries_111 (c := 1) (by decide) ?_
          refine us_goto hR dL_tries_112 116 (by decide) ?_
          refine us_istore hR dL_tries_116 (Nat.le_of_ble_eq_true rfl) ?_
          refine us_iconstC hR dL_tries_118 (c := 0) (by decide) ?_
          refine us_istore hR dL_tries_119 (Nat.le_of_ble_eq_true rfl) ?_
          exact h13035_L121 _ l0 l1 l2 l3 l4 l5 l6 l7 l8 1 0  S Ga _ _ h2 ho
  change R _ _ _ _ 460 20000
  refine us_aload_n hR dL_tries_0 rfl ?_
  refine us_iload_n hR dL_tries_1 rfl ?_
  refine us_iload_n hR dL_tries_2 rfl ?_
  refine us_iload_n hR dL_tries_3 rfl ?_
  have hg := gd_c ho
  rw [gd_e hg] at ho
  have hme := hg
  refine us_callS hR dL_tries_4 (y := 13006) (by decide +kernel) (by decide) (J := i13006) rfl rfl rfl rfl (rest := _) (Nat.le_of_ble_eq_true rfl) (Nat.le_of_ble_eq_true rfl) (Nat.le_of_ble_eq_true rfl) ?_
  obtain ⟨q45, hs45⟩ := bO_ex ho
  obtain ⟨T45, r45⟩ := q45
  replace ho := bO_go ho hs45
  refine sh_13006 h2.1 hme hs45 (fun G45 h345 hF45 => ?_)
  have h245 := h2.cls h345 hF45
  obtain ⟨S45, hS45⟩ : ∃ Sz, Sz = lT S T45 := ⟨_, rfl⟩
  rw [bS_eq, ← hS45] at ho
  rw [← hS45] at h245
  change R _ _ _ _ 418 16288
  refine us_istore hR dL_tries_7 (Nat.le_of_ble_eq_true rfl) ?_
  refine us_aload_n hR dL_tries_9 rfl ?_
  have hg := gd_c ho
  rw [gd_e hg] at ho
  refine us_callV hR dL_tries_10 (y := 11013) (by decide +kernel) (by decide) (J := i11013) rfl rfl rfl rfl (H_kind1 h245.1 hg (by decide)) rfl (Nat.le_of_ble_eq_true rfl) (Nat.zero_le _) (Nat.zero_le _) ?_
  obtain ⟨r46, hr46⟩ := bP_ex ho
  replace ho := bP_go ho hr46
  refine sh_11013 h245.1 hr46 ?_
  refine us_istore hR dL_tries_13 (Nat.le_of_ble_eq_true rfl) ?_
  refine us_aload_n hR dL_tries_15 rfl ?_
  have hg := gd_c ho
  rw [gd_e hg] at ho
  refine us_callV hR dL_tries_16 (y := 11011) (by decide +kernel) (by decide) (J := i11011) rfl rfl rfl rfl (H_kind1 h245.1 hg (by decide)) rfl (Nat.le_of_ble_eq_true rfl) (Nat.zero_le _) (Nat.zero_le _) ?_
  obtain ⟨r47, hr47⟩ := bP_ex ho
  replace ho := bP_go ho hr47
  refine sh_11011 h245.1 hr47 ?_
  refine us_istore hR dL_tries_19 (Nat.le_of_ble_eq_true rfl) ?_
  refine us_bipushC hR dL_tries_21 (c := 8) (by decide) ?_
  refine ul_newa h245 (n := 8) (by decide) (by decide) (by decide) (by decide) hR dL_tries_23 (Nat.le_of_ble_eq_true rfl) (Nat.le_of_ble_eq_true rfl) (fun G48 S48 hs48 h248 => ?_)
  rw [← hs48, bS_eq] at ho
  change R _ _ _ _ 417 16280
  refine us_astore hR dL_tries_25 (Nat.le_of_ble_eq_true rfl) ?_
  refine us_bipushC hR dL_tries_27 (c := 32) (by decide) ?_
  refine ul_newa h248 (n := 32) (by decide) (by decide) (by decide) (by decide) hR dL_tries_29 (Nat.le_of_ble_eq_true rfl) (Nat.le_of_ble_eq_true rfl) (fun G49 S49 hs49 h249 => ?_)
  rw [← hs49, bS_eq] at ho
  change R _ _ _ _ 416 16248
  refine us_astore hR dL_tries_31 (Nat.le_of_ble_eq_true rfl) ?_
  refine us_iload hR dL_tries_33 rfl ?_
  refine us_if_lt hR dL_tries_35 115 (by decide) (fun c50 => ?_) (fun c50 => ?_)
  · rw [if_pos c50] at ho
    change R _ _ _ _ 416 16248
    refine us_iconstC hR dL_tries_115 (c := 0) (by decide) ?_
    refine us_istore hR dL_tries_116 (Nat.le_of_ble_eq_true rfl) ?_
    refine us_iconstC hR dL_tries_118 (c := 0) (by decide) ?_
    refine us_istore hR dL_tries_119 (Nat.le_of_ble_eq_true rfl) ?_
    exact h13035_L121 _ x0 x1 x2 x3 r45 r46 r47 (tZ S45.1) (tZ S48.1) 0 0  S49 G49 _ _ h249 ho
  · rw [if_neg c50] at ho
    change R _ _ _ _ 416 16248
    refine us_iload hR dL_tries_38 rfl ?_
    refine us_bipushC hR dL_tries_40 (c := 8) (by decide) ?_
    refine us_icmp_ge hR dL_tries_42 115 (by decide) (fun c51 => ?_) (fun c51 => ?_)
    · rw [if_pos c51] at ho
      change R _ _ _ _ 416 16248
      refine us_iconstC hR dL_tries_115 (c := 0) (by decide) ?_
      refine us_istore hR dL_tries_116 (Nat.le_of_ble_eq_true rfl) ?_
      refine us_iconstC hR dL_tries_118 (c := 0) (by decide) ?_
      refine us_istore hR dL_tries_119 (Nat.le_of_ble_eq_true rfl) ?_
      exact h13035_L121 _ x0 x1 x2 x3 r45 r46 r47 (tZ S45.1) (tZ S48.1) 0 0  S49 G49 _ _ h249 ho
    · rw [if_neg c51] at ho
      change R _ _ _ _ 416 16248
      refine us_iload hR dL_tries_45 rfl ?_
      refine us_if_lt hR dL_tries_47 115 (by decide) (fun c52 => ?_) (fun c52 => ?_)
      · rw [if_pos c52] at ho
        change R _ _ _ _ 416 16248
        refine us_iconstC hR dL_tries_115 (c := 0) (by decide) ?_
        refine us_istore hR dL_tries_116 (Nat.le_of_ble_eq_true rfl) ?_
        refine us_iconstC hR dL_tries_118 (c := 0) (by decide) ?_
        refine us_istore hR dL_tries_119 (Nat.le_of_ble_eq_true rfl) ?_
        exact h13035_L121 _ x0 x1 x2 x3 r45 r46 r47 (tZ S45.1) (tZ S48.1) 0 0  S49 G49 _ _ h249 ho
      · rw [if_neg c52] at ho
        change R _ _ _ _ 416 16248
        refine us_iload hR dL_tries_50 rfl ?_
        refine us_iload_n hR dL_tries_52 rfl ?_
        refine us_icmp_gt hR dL_tries_53 115 (by decide) (fun c53 => ?_) (fun c53 => ?_)
        · rw [if_pos c53] at ho
          change R _ _ _ _ 416 16248
          refine us_iconstC hR dL_tries_115 (c := 0) (by decide) ?_
          refine us_istore hR dL_tries_116 (Nat.le_of_ble_eq_true rfl) ?_
          refine us_iconstC hR dL_tries_118 (c := 0) (by decide) ?_
          refine us_istore hR dL_tries_119 (Nat.le_of_ble_eq_true rfl) ?_
          exact h13035_L121 _ x0 x1 x2 x3 r45 r46 r47 (tZ S45.1) (tZ S48.1) 0 0  S49 G49 _ _ h249 ho
        · rw [if_neg c53] at ho
          change R _ _ _ _ 416 16248
          refine us_iload hR dL_tries_56 rfl ?_
          refine us_if_lt hR dL_tries_58 115 (by decide) (fun c54 => ?_) (fun c54 => ?_)
          · rw [if_pos c54] at ho
            change R _ _ _ _ 416 16248
            refine us_iconstC hR dL_tries_115 (c := 0) (by decide) ?_
            refine us_istore hR dL_tries_116 (Nat.le_of_ble_eq_true rfl) ?_
            refine us_iconstC hR dL_tries_118 (c := 0) (by decide) ?_
            refine us_istore hR dL_tries_119 (Nat.le_of_ble_eq_true rfl) ?_
            exact h13035_L121 _ x0 x1 x2 x3 r45 r46 r47 (tZ S45.1) (tZ S48.1) 0 0  S49 G49 _ _ h249 ho
          · rw [if_neg c54] at ho
            change R _ _ _ _ 416 16248
            refine us_iload hR dL_tries_61 rfl ?_
            refine us_bipushC hR dL_tries_63 (c := 9) (by decide) ?_
            refine us_icmp_ge hR dL_tries_65 115 (by decide) (fun c55 => ?_) (fun c55 => ?_)
            · rw [if_pos c55] at ho
              change R _ _ _ _ 416 16248
              refine us_iconstC hR dL_tries_115 (c := 0) (by decide) ?_
              refine us_istore hR dL_tries_116 (Nat.le_of_ble_eq_true rfl) ?_
              refine us_iconstC hR dL_tries_118 (c := 0) (by decide) ?_
              refine us_istore hR dL_tries_119 (Nat.le_of_ble_eq_true rfl) ?_
              exact h13035_L121 _ x0 x1 x2 x3 r45 r46 r47 (tZ S45.1) (tZ S48.1) 0 0  S49 G49 _ _ h249 ho
            · rw [if_neg c55] at ho
              change R _ _ _ _ 416 16248
              refine us_iload hR dL_tries_68 rfl ?_
              refine us_iconstC hR dL_tries_70 (c := 1) (by decide) ?_
              refine us_icmp_ne hR dL_tries_71 79 (by decide) (fun c56 => ?_) (fun c56 => ?_)
              · rw [if_neg c56] at ho
                exact h13035_J79 x0 x1 x2 x3 r45 r46 r47 (tZ S45.1) (tZ S48.1)  S49 G49 _ _ h249 ho
              · rw [if_pos c56] at ho
                change R _ _ _ _ 416 16248
                refine us_iload hR dL_tries_74 rfl ?_
                refine us_if_ne hR dL_tries_76 115 (by decide) (fun c57 => ?_) (fun c57 => ?_)
                · rw [if_neg c57] at ho
                  change R _ _ _ _ 416 16248
                  refine us_iconstC hR dL_tries_115 (c := 0) (by decide) ?_
                  refine us_istore hR dL_tries_116 (Nat.le_of_ble_eq_true rfl) ?_
                  refine us_iconstC hR dL_tries_118 (c := 0) (by decide) ?_
                  refine us_istore hR dL_tries_119 (Nat.le_of_ble_eq_true rfl) ?_
                  exact h13035_L121 _ x0 x1 x2 x3 r45 r46 r47 (tZ S45.1) (tZ S48.1) 0 0  S49 G49 _ _ h249 ho
                · rw [if_pos c57] at ho
                  exact h13035_J79 x0 x1 x2 x3 r45 r46 r47 (tZ S45.1) (tZ S48.1)  S49 G49 _ _ h249 ho
def l_13036_J311 (l0 : Nat) (l1 : Nat) (l2 : Int32) (l3 : Int32) (l4 : Int32) (l5 : Int32) (l6 : Int32) (l7 : Int32) (l8 : Int32) (l9 : Int32) (l10 : Int32) (k0 : Int32) (bc bs : Nat) (S : Lx) : Option (Lx × Int32) :=
  if k0 = 0 then
    some (S, 0)
  else
    gd (tK S.1 l0 = 12) <|
    gd ((1 : Nat) ≤ bc ∧ 6 ≤ bs) <|
    bO (h_13003 l0 ((l4 + l9) + 3) S.1) fun T2 r2 => bS (lT S T2) fun S2 =>
    if r2 = (-1000002) then
      gd (tK S2.1 l0 = 12) <|
      gd ((1 : Nat) ≤ (bc - 1) ∧ 6 ≤ (bs - 6)) <|
      bO (h_13003 l0 (l9 + 2) S2.1) fun T4 r4 => bS (lT S2 T4) fun S4 =>
      if r4 = l4 then
        gd (tK S4.1 l0 = 12) <|
        gd ((40 : Nat) ≤ ((bc - 1) - 1) ∧ 3700 ≤ ((bs - 6) - 6)) <|
        bO (h_11006 l0 S4.1) fun T6 r6 => bS (lT S4 T6) fun S6 =>
        if r6 = 0 then
          gd (tK S6.1 l0 = 12) <|
          gd ((41 : Nat) ≤ (((bc - 1) - 1) - 40) ∧ 3706 ≤ (((bs - 6) - 6) - 3700)) <|
          bO (h_13005 l0 S6.1) fun T8 r8 => bS (lT S6 T8) fun S8 =>
          gd (vi 3 (S8.2 l1).length) <|
          if r8 = (xg (S8.2 l1) 3) then
            gd (tK S8.1 l0 = 12) <|
            gd ((1 : Nat) ≤ ((((bc - 1) - 1) - 40) - 41) ∧ 6 ≤ ((((bs - 6) - 6) - 3700) - 3706)) <|
            bP (h_13004 l0 l4 S8.1) fun r10 =>
            if r10 = (-1000001) then
              some (S8, 1)
            else
              some (S8, 0)
          else
            some (S8, 0)
        else
          some (S6, 0)
      else
        some (S4, 0)
    else
      some (S2, 0)
def l_13036_J310 (l0 : Nat) (l1 : Nat) (l2 : Int32) (l3 : Int32) (l4 : Int32) (l5 : Int32) (l6 : Int32) (l7 : Int32) (l8 : Int32) (l9 : Int32) (l10 : Int32) (bc bs : Nat) (S : Lx) : Option (Lx × Int32) :=
  l_13036_J311 l0 l1 l2 l3 l4 l5 l6 l7 l8 l9 l10 0 bc bs S
def l_13036_L239 : Nat → Nat → Nat → Int32 → Int32 → Int32 → Int32 → Int32 → Int32 → Int32 → Int32 → Int32 → Nat → Nat → Lx → Option (Lx × Int32)
  | 0, _, _, _, _, _, _, _, _, _, _, _, _, _, _ => none
  | n + 1, l0, l1, l2, l3, l4, l5, l6, l7, l8, l9, l10, bc, bs, S =>
    if l9 ≤ l10 then
      if l7 = 0 then
        l_13036_J310 l0 l1 l2 l3 l4 l5 l6 l7 l8 l9 l10 bc bs S
      else
        gd (tK S.1 l0 = 12) <|
        gd ((40 : Nat) ≤ bc ∧ 3700 ≤ bs) <|
        bO (h_11006 l0 S.1) fun T14 r14 => bS (lT S T14) fun S14 =>
        if r14 = l8 then
          gd (tK S14.1 l0 = 12) <|
          gd ((40 : Nat) ≤ (bc - 40) ∧ 3700 ≤ (bs - 3700)) <|
          bO (h_11007 l0 S14.1) fun T16 r16 => bS (lT S14 T16) fun S16 =>
          if r16 = l4 then
            l_13036_J311 l0 l1 l2 l3 l4 l5 l6 l7 l8 l9 l10 1 ((bc - 40) - 40) ((bs - 3700) - 3700) S16
          else
            l_13036_J310 l0 l1 l2 l3 l4 l5 l6 l7 l8 l9 l10 ((bc - 40) - 40) ((bs - 3700) - 3700) S16
        else
          l_13036_J310 l0 l1 l2 l3 l4 l5 l6 l7 l8 l9 l10 (bc - 40) (bs - 3700) S14
    else
      if l7 = 0 then
        l_13036_L239 n l0 l1 l2 l3 l4 l5 l6 0 l8 l9 (l10 + 1) bc bs S
      else
        bP (h_13001 (l3 >>> (l10 &&& 31)) 90 S.1) fun r19 =>
        gd ((2 : Nat) ≤ bc ∧ 12 ≤ bs) <|
        bO (h_13028 l0 (33 + r19) S.1) fun T20 r20 => bS (lT S T20) fun S20 =>
        if r20 = 0 then
          l_13036_L239 n l0 l1 l2 l3 l4 l5 l6 0 l8 l9 (l10 + 1) (bc - 2) (bs - 12) S20
        else
          l_13036_L239 n l0 l1 l2 l3 l4 l5 l6 1 l8 l9 (l10 + 1) (bc - 2) (bs - 12) S20
def l_13036_J199 (l0 : Nat) (l1 : Nat) (l2 : Int32) (l3 : Int32) (l4 : Int32) (l5 : Int32) (l6 : Int32) (k0 : Int32) (bc bs : Nat) (S : Lx) : Option (Lx × Int32) :=
  gd (tK S.1 l0 = 12) <|
  gd ((40 : Nat) ≤ bc ∧ 3700 ≤ bs) <|
  bO (h_11006 l0 S.1) fun T22 r22 => bS (lT S T22) fun S22 =>
  bP (h_13001 l3 9 S22.1) fun r23 =>
  if k0 = 0 then
    l_13036_L239 12 l0 l1 l2 l3 l4 l5 l6 0 r22 r23 0 (bc - 40) (bs - 3700) S22
  else
    gd ((2 : Nat) ≤ (bc - 40) ∧ 12 ≤ (bs - 3700)) <|
    bO (h_13028 l0 32 S22.1) fun T25 r25 => bS (lT S22 T25) fun S25 =>
    if r25 = 0 then
      l_13036_L239 12 l0 l1 l2 l3 l4 l5 l6 0 r22 r23 0 ((bc - 40) - 2) ((bs - 3700) - 12) S25
    else
      l_13036_L239 12 l0 l1 l2 l3 l4 l5 l6 1 r22 r23 0 ((bc - 40) - 2) ((bs - 3700) - 12) S25
def l_13036_J198 (l0 : Nat) (l1 : Nat) (l2 : Int32) (l3 : Int32) (l4 : Int32) (l5 : Int32) (l6 : Int32) (bc bs : Nat) (S : Lx) : Option (Lx × Int32) :=
  l_13036_J199 l0 l1 l2 l3 l4 l5 l6 0 bc bs S
def l_13036_J191 (l0 : Nat) (l1 : Nat) (l2 : Int32) (l3 : Int32) (l4 : Int32) (l5 : Int32) (l6 : Int32) (k0 : Int32) (k1 : Int32) (bc bs : Nat) (S : Lx) : Option (Lx × Int32) :=
  if k1 = k0 then
    l_13036_J199 l0 l1 l2 l3 l4 l5 l6 1 bc bs S
  else
    l_13036_J198 l0 l1 l2 l3 l4 l5 l6 bc bs S
def l_13036_J134 (l0 : Nat) (l1 : Nat) (l2 : Int32) (l3 : Int32) (l4 : Int32) (l5 : Int32) (l6 : Int32) (k0 : Int32) (k1 : Int32) (bc bs : Nat) (S : Lx) : Option (Lx × Int32) :=
  if k1 = k0 then
    gd (tK S.1 l0 = 12) <|
    gd ((40 : Nat) ≤ bc ∧ 3700 ≤ bs) <|
    bO (h_11007 l0 S.1) fun T29 r29 => bS (lT S T29) fun S29 =>
    if r29 = l4 then
      gd (tK S29.1 l0 = 12) <|
      gd ((41 : Nat) ≤ (bc - 40) ∧ 3706 ≤ (bs - 3700)) <|
      bO (h_13005 l0 S29.1) fun T31 r31 => bS (lT S29 T31) fun S31 =>
      if r31 = (-1000003) then
        gd (tK S31.1 l0 = 12) <|
        gd ((42 : Nat) ≤ ((bc - 40) - 41) ∧ 3712 ≤ ((bs - 3700) - 3706)) <|
        bO (h_13006 l0 9 0 0 S31.1) fun T33 r33 => bS (lT S31 T33) fun S33 =>
        if r33 = (-1000003) then
          gd (vi 0 (S33.2 l1).length) <|
          gd (tK S33.1 l0 = 12) <|
          gd ((130 : Nat) ≤ (((bc - 40) - 41) - 42) ∧ 9200 ≤ (((bs - 3700) - 3706) - 3712)) <|
          bO (h_13014 l0 0 ((xg (S33.2 l1) 0) - 1) S33.1) fun T35 r35 => bS (lT S33 T35) fun S35 =>
          gd (vi 0 (S35.2 l1).length) <|
          if (xg (S35.2 l1) 0) = 0 then
            l_13036_J191 l0 l1 l2 l3 l4 l5 l6 (-1000001) r35 ((((bc - 40) - 41) - 42) - 130) ((((bs - 3700) - 3706) - 3712) - 9200) S35
          else
            l_13036_J191 l0 l1 l2 l3 l4 l5 l6 (-1000003) r35 ((((bc - 40) - 41) - 42) - 130) ((((bs - 3700) - 3706) - 3712) - 9200) S35
        else
          l_13036_J198 l0 l1 l2 l3 l4 l5 l6 (((bc - 40) - 41) - 42) (((bs - 3700) - 3706) - 3712) S33
      else
        l_13036_J198 l0 l1 l2 l3 l4 l5 l6 ((bc - 40) - 41) ((bs - 3700) - 3706) S31
    else
      l_13036_J198 l0 l1 l2 l3 l4 l5 l6 (bc - 40) (bs - 3700) S29
  else
    l_13036_J198 l0 l1 l2 l3 l4 l5 l6 bc bs S
def l_13036_J129 (l0 : Nat) (l1 : Nat) (l2 : Int32) (l3 : Int32) (l4 : Int32) (l5 : Int32) (l6 : Int32) (k0 : Int32) (bc bs : Nat) (S : Lx) : Option (Lx × Int32) :=
  l_13036_J134 l0 l1 l2 l3 l4 l5 l6 1 k0 bc bs S
def l_13036_J102 (l0 : Nat) (l1 : Nat) (l2 : Int32) (l3 : Int32) (l4 : Int32) (l5 : Int32) (k0 : Int32) (bc bs : Nat) (S : Lx) : Option (Lx × Int32) :=
  gd ((2 : Nat) ≤ bc ∧ 12 ≤ bs) <|
  bO (h_13028 l0 k0 S.1) fun T37 r37 => bS (lT S T37) fun S37 =>
  if r37 = 0 then
    l_13036_J198 l0 l1 l2 l3 l4 l5 k0 (bc - 2) (bs - 12) S37
  else
    gd (tK S37.1 l0 = 12) <|
    gd ((40 : Nat) ≤ (bc - 2) ∧ 3700 ≤ (bs - 12)) <|
    bO (h_11006 l0 S37.1) fun T39 r39 => bS (lT S37 T39) fun S39 =>
    if l5 = 2 then
      l_13036_J129 l0 l1 l2 l3 l4 l5 k0 r39 ((bc - 2) - 40) ((bs - 12) - 3700) S39
    else
      if l5 = 3 then
        l_13036_J129 l0 l1 l2 l3 l4 l5 k0 r39 ((bc - 2) - 40) ((bs - 12) - 3700) S39
      else
        l_13036_J134 l0 l1 l2 l3 l4 l5 k0 3 r39 ((bc - 2) - 40) ((bs - 12) - 3700) S39
def l_13036 (x0 : Nat) (x1 : Nat) (x2 : Int32) (x3 : Int32) (x4 : Int32) (S : Lx) : Option (Lx × Int32) :=
  gd (tK S.1 x0 = 12) <|
  bP (h_11004 x0 S.1) fun r42 =>
  if r42 ≤ 280 then
    bP (h_13001 x2 7 S.1) fun r44 =>
    if r44 = 0 then
      l_13036_J102 x0 x1 x2 x3 r42 r44 125 620 44000 S
    else
      if r44 = 1 then
        l_13036_J102 x0 x1 x2 x3 r42 r44 41 620 44000 S
      else
        if r44 = 2 then
          l_13036_J102 x0 x1 x2 x3 r42 r44 38 620 44000 S
        else
          if r44 = 3 then
            l_13036_J102 x0 x1 x2 x3 r42 r44 65 620 44000 S
          else
            if r44 = 4 then
              l_13036_J102 x0 x1 x2 x3 r42 r44 59 620 44000 S
            else
              if r44 = 5 then
                l_13036_J102 x0 x1 x2 x3 r42 r44 53 620 44000 S
              else
                l_13036_J102 x0 x1 x2 x3 r42 r44 61 620 44000 S
  else
    gd (tK S.1 x0 = 12) <|
    bO (h_11006 x0 S.1) fun T51 r51 => bS (lT S T51) fun S51 =>
    if r51 = 0 then
      some (S51, 1)
    else
      some (S51, 0)
set_option maxRecDepth 8000 in
theorem sl_13036 {d : Nat} {G : ab_G} {S : Lx} {P : ab_Pq} {X : ab_Xq} (h2 : LRep G S) {x0 : Nat} {x1 : Nat} {x2 : Int32} {x3 : Int32} {x4 : Int32} {o : Lx × Int32} (ho : l_13036 x0 x1 x2 x3 x4 S = some o) (h : ∀ G1, (o.2 = 0 ∨ o.2 = 1) → LRep G1 o.1 → P G1 (some (.int o.2))) : ab_Gam (d + 917) 13036 [.ref x0, .ref x1, .int x2, .int x3, .int x4] G P X := by
  unfold l_13036 at ho
  refine ab_enter (I := i13036) rfl (Nat.le_of_ble_eq_true rfl) (fun R hR => ?_)
  have h13036_J311 : ∀ (l0 : Nat) (l1 : Nat) (l2 : Int32) (l3 : Int32) (l4 : Int32) (l5 : Int32) (l6 : Int32) (l7 : Int32) (l8 : Int32) (l9 : Int32) (l10 : Int32) (k0 : Int32)  (S : Lx) (Ga : ab_G) (bc bs : Nat) (h2 : LRep Ga S) (ho : l_13036_J311 l0 l1 l2 l3 l4 l5 l6 l7 l8 l9 l10 k0 bc bs S = some o), R 311 [some (.ref l0), some (.ref l1), some (.int l2), some (.int l3), some (.int l4), some (.int l5), some (.int l6), some (.int l7), some (.int l8), some (.int l9), some (.int l10)] [.int k0] Ga bc bs := by
    intro l0 l1 l2 l3 l4 l5 l6 l7 l8 l9 l10 k0  S Ga bc bs h2 ho
    unfold l_13036_J311 at ho
    refine us_istore hR dL_spoils_311 (Nat.le_of_ble_eq_true rfl) ?_
    refine us_iload hR dL_spoils_313 rfl ?_
    refine us_if_eq hR dL_spoils_315 379 (by decide) (fun c1 => ?_) (fun c1 => ?_)
    · rw [if_pos c1] at ho
      refine us_iconstC hR dL_spoils_379 (c := 0) (by decide) ?_
      refine us_iret hR dL_spoils_380 rfl (nar01 (Or.inl rfl)) ?_
      cases ho
      exact h _ (Or.inl rfl) h2
    · rw [if_neg c1] at ho
      refine us_aload_n hR dL_spoils_318 rfl ?_
      refine us_iload hR dL_spoils_319 rfl ?_
      refine us_iload hR dL_spoils_321 rfl ?_
      refine us_iadd hR dL_spoils_323 ?_
      refine us_iconstC hR dL_spoils_324 (c := 3) (by decide) ?_
      refine us_iadd hR dL_spoils_325 ?_
      have hg := gd_c ho
      rw [gd_e hg] at ho
      have hme := hg
      have hb := gd_c ho
      rw [gd_e hb] at ho
      refine us_callS hR dL_spoils_326 (y := 13003) (by decide +kernel) (by decide) (J := i13003) rfl rfl rfl rfl (rest := _) (Nat.le_of_ble_eq_true rfl) hb.1 hb.2 ?_
      obtain ⟨q2, hs2⟩ := bO_ex ho
      obtain ⟨T2, r2⟩ := q2
      replace ho := bO_go ho hs2
      refine sh_13003 h2.1 hme hs2 (fun G2 h32 hF2 => ?_)
      have h22 := h2.cls h32 hF2
      obtain ⟨S2, hS2⟩ : ∃ Sz, Sz = lT S T2 := ⟨_, rfl⟩
      rw [bS_eq, ← hS2] at ho
      rw [← hS2] at h22
      refine us_ldc hR dL_spoils_329 (v := (-1000002)) (by decide +kernel) ?_
      refine us_icmp_ne hR dL_spoils_331 379 (by decide) (fun c3 => ?_) (fun c3 => ?_)
      · rw [if_neg c3] at ho
        refine us_iconstC hR dL_spoils_379 (c := 0) (by decide) ?_
        refine us_iret hR dL_spoils_380 rfl (nar01 (Or.inl rfl)) ?_
        cases ho
        exact h _ (Or.inl rfl) h22
      · rw [if_pos c3] at ho
        refine us_aload_n hR dL_spoils_334 rfl ?_
        refine us_iload hR dL_spoils_335 rfl ?_
        refine us_iconstC hR dL_spoils_337 (c := 2) (by decide) ?_
        refine us_iadd hR dL_spoils_338 ?_
        have hg := gd_c ho
        rw [gd_e hg] at ho
        have hme := hg
        have hb := gd_c ho
        rw [gd_e hb] at ho
        refine us_callS hR dL_spoils_339 (y := 13003) (by decide +kernel) (by decide) (J := i13003) rfl rfl rfl rfl (rest := _) (Nat.le_of_ble_eq_true rfl) hb.1 hb.2 ?_
        obtain ⟨q4, hs4⟩ := bO_ex ho
        obtain ⟨T4, r4⟩ := q4
        replace ho := bO_go ho hs4
        refine sh_13003 h22.1 hme hs4 (fun G4 h34 hF4 => ?_)
        have h24 := h22.cls h34 hF4
        obtain ⟨S4, hS4⟩ : ∃ Sz, Sz = lT S2 T4 := ⟨_, rfl⟩
        rw [bS_eq, ← hS4] at ho
        rw [← hS4] at h24
        refine us_iload hR dL_spoils_342 rfl ?_
        refine us_icmp_ne hR dL_spoils_344 379 (by decide) (fun c5 => ?_) (fun c5 => ?_)
        · rw [if_neg c5] at ho
          refine us_iconstC hR dL_spoils_379 (c := 0) (by decide) ?_
          refine us_iret hR dL_spoils_380 rfl (nar01 (Or.inl rfl)) ?_
          cases ho
          exact h _ (Or.inl rfl) h24
        · rw [if_pos c5] at ho
          refine us_aload_n hR dL_spoils_347 rfl ?_
          have hg := gd_c ho
          rw [gd_e hg] at ho
          have hb := gd_c ho
          rw [gd_e hb] at ho
          refine us_callV hR dL_spoils_348 (y := 11006) (by decide +kernel) (by decide) (J := i11006) rfl rfl rfl rfl (H_kind1 h24.1 hg (by decide)) rfl (Nat.le_of_ble_eq_true rfl) hb.1 hb.2 ?_
          obtain ⟨q6, hs6⟩ := bO_ex ho
          obtain ⟨T6, r6⟩ := q6
          replace ho := bO_go ho hs6
          refine sh_11006 h24.1 hs6 (fun G6 h36 hF6 => ?_)
          have h26 := h24.cls h36 hF6
          obtain ⟨S6, hS6⟩ : ∃ Sz, Sz = lT S4 T6 := ⟨_, rfl⟩
          rw [bS_eq, ← hS6] at ho
          rw [← hS6] at h26
          refine us_if_ne hR dL_spoils_351 379 (by decide) (fun c7 => ?_) (fun c7 => ?_)
          · rw [if_neg c7] at ho
            refine us_iconstC hR dL_spoils_379 (c := 0) (by decide) ?_
            refine us_iret hR dL_spoils_380 rfl (nar01 (Or.inl rfl)) ?_
            cases ho
            exact h _ (Or.inl rfl) h26
          · rw [if_pos c7] at ho
            refine us_aload_n hR dL_spoils_354 rfl ?_
            have hg := gd_c ho
            rw [gd_e hg] at ho
            have hme := hg
            have hb := gd_c ho
            rw [gd_e hb] at ho
            refine us_callS hR dL_spoils_355 (y := 13005) (by decide +kernel) (by decide) (J := i13005) rfl rfl rfl rfl (rest := _) (Nat.le_of_ble_eq_true rfl) hb.1 hb.2 ?_
            obtain ⟨q8, hs8⟩ := bO_ex ho
            obtain ⟨T8, r8⟩ := q8
            replace ho := bO_go ho hs8
            refine sh_13005 h26.1 hme hs8 (fun G8 h38 hF8 => ?_)
            have h28 := h26.cls h38 hF8
            obtain ⟨S8, hS8⟩ : ∃ Sz, Sz = lT S6 T8 := ⟨_, rfl⟩
            rw [bS_eq, ← hS8] at ho
            rw [← hS8] at h28
            refine us_aload_n hR dL_spoils_358 rfl ?_
            refine us_iconstC hR dL_spoils_359 (c := 3) (by decide) ?_
            have hg := gd_c ho
            rw [gd_e hg] at ho
            refine ul_iaload h28 hg hR dL_spoils_360 ?_
            refine us_icmp_ne hR dL_spoils_361 379 (by decide) (fun c9 => ?_) (fun c9 => ?_)
            · rw [if_neg c9] at ho
              refine us_iconstC hR dL_spoils_379 (c := 0) (by decide) ?_
              refine us_iret hR dL_spoils_380 rfl (nar01 (Or.inl rfl)) ?_
              cases ho
              exact h _ (Or.inl rfl) h28
            · rw [if_pos c9] at ho
              refine us_aload_n hR dL_spoils_364 rfl ?_
              refine us_iload hR dL_spoils_365 rfl ?_
              have hg := gd_c ho
              rw [gd_e hg] at ho
              have hme := hg
              have hb := gd_c ho
              rw [gd_e hb] at ho
              refine us_callS hR dL_spoils_367 (y := 13004) (by decide +kernel) (by decide) (J := i13004) rfl rfl rfl rfl (rest := _) (Nat.le_of_ble_eq_true rfl) hb.1 hb.2 ?_
              obtain ⟨r10, hr10⟩ := bP_ex ho
              replace ho := bP_go ho hr10
              refine sh_13004 h28.1 hme hr10 ?_
              refine us_ldc hR dL_spoils_370 (v := (-1000001)) (by decide +kernel) ?_
              refine us_icmp_ne hR dL_spoils_372 379 (by decide) (fun c11 => ?_) (fun c11 => ?_)
              · rw [if_neg c11] at ho
                refine us_iconstC hR dL_spoils_379 (c := 0) (by decide) ?_
                refine us_iret hR dL_spoils_380 rfl (nar01 (Or.inl rfl)) ?_
                cases ho
                exact h _ (Or.inl rfl) h28
              · rw [if_pos c11] at ho
                refine us_iconstC hR dL_spoils_375 (c := 1) (by decide) ?_
                refine us_goto hR dL_spoils_376 380 (by decide) ?_
                refine us_iret hR dL_spoils_380 rfl (nar01 (Or.inr rfl)) ?_
                cases ho
                exact h _ (Or.inr rfl) h28
  have h13036_J310 : ∀ (l0 : Nat) (l1 : Nat) (l2 : Int32) (l3 : Int32) (l4 : Int32) (l5 : Int32) (l6 : Int32) (l7 : Int32) (l8 : Int32) (l9 : Int32) (l10 : Int32)  (S : Lx) (Ga : ab_G) (bc bs : Nat) (h2 : LRep Ga S) (ho : l_13036_J310 l0 l1 l2 l3 l4 l5 l6 l7 l8 l9 l10 bc bs S = some o), R 310 [some (.ref l0), some (.ref l1), some (.int l2), some (.int l3), some (.int l4), some (.int l5), some (.int l6), some (.int l7), some (.int l8), some (.int l9), some (.int l10)] [] Ga bc bs := by
    intro l0 l1 l2 l3 l4 l5 l6 l7 l8 l9 l10  S Ga bc bs h2 ho
    unfold l_13036_J310 at ho
    refine us_iconstC hR dL_spoils_310 (c := 0) (by decide) ?_
    exact h13036_J311 l0 l1 l2 l3 l4 l5 l6 l7 l8 l9 l10 0  S Ga _ _ h2 ho
  have h13036_L239 : ∀ (n : Nat) (l0 : Nat) (l1 : Nat) (l2 : Int32) (l3 : Int32) (l4 : Int32) (l5 : Int32) (l6 : Int32) (l7 : Int32) (l8 : Int32) (l9 : Int32) (l10 : Int32)  (S : Lx) (Ga : ab_G) (bc bs : Nat) (h2 : LRep Ga S) (ho : l_13036_L239 n l0 l1 l2 l3 l4 l5 l6 l7 l8 l9 l10 bc bs S = some o), R 239 [some (.ref l0), some (.ref l1), some (.int l2), some (.int l3), some (.int l4), some (.int l5), some (.int l6), some (.int l7), some (.int l8), some (.int l9), some (.int l10)] [] Ga bc bs := by
    intro n
    induction n with
    | zero => intro l0 l1 l2 l3 l4 l5 l6 l7 l8 l9 l10  S Ga bc bs h2 ho; exact absurd ho (by intro hc; cases hc)
    | succ n239 ih239 =>
      intro l0 l1 l2 l3 l4 l5 l6 l7 l8 l9 l10  S Ga bc bs h2 ho
      rw [l_13036_L239] at ho
      refine us_iload hR dL_spoils_239 rfl ?_
      refine us_iload hR dL_spoils_241 rfl ?_
      refine us_icmp_ge hR dL_spoils_243 283 (by decide) (fun c12 => ?_) (fun c12 => ?_)
      · rw [if_pos c12] at ho
        refine us_iload hR dL_spoils_283 rfl ?_
        refine us_if_eq hR dL_spoils_285 310 (by decide) (fun c13 => ?_) (fun c13 => ?_)
        · rw [if_pos c13] at ho
          exact h13036_J310 l0 l1 l2 l3 l4 l5 l6 l7 l8 l9 l10  S Ga _ _ h2 ho
        · rw [if_neg c13] at ho
          refine us_aload_n hR dL_spoils_288 rfl ?_
          have hg := gd_c ho
          rw [gd_e hg] at ho
          have hb := gd_c ho
          rw [gd_e hb] at ho
          refine us_callV hR dL_spoils_289 (y := 11006) (by decide +kernel) (by decide) (J := i11006) rfl rfl rfl rfl (H_kind1 h2.1 hg (by decide)) rfl (Nat.le_of_ble_eq_true rfl) hb.1 hb.2 ?_
          obtain ⟨q14, hs14⟩ := bO_ex ho
          obtain ⟨T14, r14⟩ := q14
          replace ho := bO_go ho hs14
          refine sh_11006 h2.1 hs14 (fun G14 h314 hF14 => ?_)
          have h214 := h2.cls h314 hF14
          obtain ⟨S14, hS14⟩ : ∃ Sz, Sz = lT S T14 := ⟨_, rfl⟩
          rw [bS_eq, ← hS14] at ho
          rw [← hS14] at h214
          refine us_iload hR dL_spoils_292 rfl ?_
          refine us_icmp_ne hR dL_spoils_294 310 (by decide) (fun c15 => ?_) (fun c15 => ?_)
          · rw [if_neg c15] at ho
            exact h13036_J310 l0 l1 l2 l3 l4 l5 l6 l7 l8 l9 l10  S14 G14 _ _ h214 ho
          · rw [if_pos c15] at ho
            refine us_aload_n hR dL_spoils_297 rfl ?_
            have hg := gd_c ho
            rw [gd_e hg] at ho
            have hb := gd_c ho
            rw [gd_e hb] at ho
            refine us_callV hR dL_spoils_298 (y := 11007) (by decide +kernel) (by decide) (J := i11007) rfl rfl rfl rfl (H_kind1 h214.1 hg (by decide)) rfl (Nat.le_of_ble_eq_true rfl) hb.1 hb.2 ?_
            obtain ⟨q16, hs16⟩ := bO_ex ho
            obtain ⟨T16, r16⟩ := q16
            replace ho := bO_go ho hs16
            refine sh_11007 h214.1 hs16 (fun G16 h316 hF16 => ?_)
            have h216 := h214.cls h316 hF16
            obtain ⟨S16, hS16⟩ : ∃ Sz, Sz = lT S14 T16 := ⟨_, rfl⟩
            rw [bS_eq, ← hS16] at ho
            rw [← hS16] at h216
            refine us_iload hR dL_spoils_301 rfl ?_
            refine us_icmp_ne hR dL_spoils_303 310 (by decide) (fun c17 => ?_) (fun c17 => ?_)
            · rw [if_neg c17] at ho
              exact h13036_J310 l0 l1 l2 l3 l4 l5 l6 l7 l8 l9 l10  S16 G16 _ _ h216 ho
            · rw [if_pos c17] at ho
              refine us_iconstC hR dL_spoils_306 (c := 1) (by decide) ?_
              refine us_goto hR dL_spoils_307 311 (by decide) ?_
              exact h13036_J311 l0 l1 l2 l3 l4 l5 l6 l7 l8 l9 l10 1  S16 G16 _ _ h216 ho
      · rw [if_neg c12] at ho
        refine us_iload hR dL_spoils_246 rfl ?_
        refine us_if_eq hR dL_spoils_248 274 (by decide) (fun c18 => ?_) (fun c18 => ?_)
        · rw [if_pos c18] at ho
          refine us_iconstC hR dL_spoils_274 (c := 0) (by decide) ?_
          refine us_istore hR dL_spoils_275 (Nat.le_of_ble_eq_true rfl) ?_
          refine us_iincC hR dL_spoils_277 rfl (Nat.le_of_ble_eq_true rfl) (c := 1) (by decide) ?_
          refine us_goto hR dL_spoils_280 239 (by decide) ?_
          exact ih239 l0 l1 l2 l3 l4 l5 l6 0 l8 l9 (l10 + 1)  S Ga _ _ h2 ho
        · rw [if_neg c18] at ho
          refine us_aload_n hR dL_spoils_251 rfl ?_
          refine us_bipushC hR dL_spoils_252 (c := 33) (by decide) ?_
          refine us_iload_n hR dL_spoils_254 rfl ?_
          refine us_iload hR dL_spoils_255 rfl ?_
          refine us_ishr hR dL_spoils_257 ?_
          refine us_bipushC hR dL_spoils_258 (c := 90) (by decide) ?_
          refine us_callS hR dL_spoils_260 (y := 13001) (by decide +kernel) (by decide) (J := i13001) rfl rfl rfl rfl (rest := _) (Nat.le_of_ble_eq_true rfl) (Nat.zero_le _) (Nat.zero_le _) ?_
          obtain ⟨r19, hr19⟩ := bP_ex ho
          replace ho := bP_go ho hr19
          refine sh_13001 h2.1 hr19 ?_
          refine us_iadd hR dL_spoils_263 ?_
          have hb := gd_c ho
          rw [gd_e hb] at ho
          refine us_callS hR dL_spoils_264 (y := 13028) (by decide +kernel) (by decide) (J := i13028) rfl rfl rfl rfl (rest := _) (Nat.le_of_ble_eq_true rfl) hb.1 hb.2 ?_
          obtain ⟨q20, hs20⟩ := bO_ex ho
          obtain ⟨T20, r20⟩ := q20
          replace ho := bO_go ho hs20
          refine sh_13028 h2.1 hs20 (fun G20 hb20 h320 hF20 => ?_)
          have h220 := h2.cls h320 hF20
          obtain ⟨S20, hS20⟩ : ∃ Sz, Sz = lT S T20 := ⟨_, rfl⟩
          rw [bS_eq, ← hS20] at ho
          rw [← hS20] at h220
          refine us_if_eq hR dL_spoils_267 274 (by decide) (fun c21 => ?_) (fun c21 => ?_)
          · rw [if_pos c21] at ho
            refine us_iconstC hR dL_spoils_274 (c := 0) (by decide) ?_
            refine us_istore hR dL_spoils_275 (Nat.le_of_ble_eq_true rfl) ?_
            refine us_iincC hR dL_spoils_277 rfl (Nat.le_of_ble_eq_true rfl) (c := 1) (by decide) ?_
            refine us_goto hR dL_spoils_280 239 (by decide) ?_
            exact ih239 l0 l1 l2 l3 l4 l5 l6 0 l8 l9 (l10 + 1)  S20 G20 _ _ h220 ho
          · rw [if_neg c21] at ho
            refine us_iconstC hR dL_spoils_270 (c := 1) (by decide) ?_
            refine us_goto hR dL_spoils_271 275 (by decide) ?_
            refine us_istore hR dL_spoils_275 (Nat.le_of_ble_eq_true rfl) ?_
            refine us_iincC hR dL_spoils_277 rfl (Nat.le_of_ble_eq_true rfl) (c := 1) (by decide) ?_
            refine us_goto hR dL_spoils_280 239 (by decide) ?_
            exact ih239 l0 l1 l2 l3 l4 l5 l6 1 l8 l9 (l10 + 1)  S20 G20 _ _ h220 ho
  have h13036_J199 : ∀ (l0 : Nat) (l1 : Nat) (l2 : Int32) (l3 : Int32) (l4 : Int32) (l5 : Int32) (l6 : Int32) (k0 : Int32)  (S : Lx) (Ga : ab_G) (bc bs : Nat) (h2 : LRep Ga S) (ho : l_13036_J199 l0 l1 l2 l3 l4 l5 l6 k0 bc bs S = some o), R 199 [some (.ref l0), some (.ref l1), some (.int l2), some (.int l3), some (.int l4), some (.int l5), some (.int l6), none, none, none, none] [.int k0] Ga bc bs := by
    intro l0 l1 l2 l3 l4 l5 l6 k0  S Ga bc bs h2 ho
    unfold l_13036_J199 at ho
    refine us_istore hR dL_spoils_199 (Nat.le_of_ble_eq_true rfl) ?_
    refine us_aload_n hR dL_spoils_201 rfl ?_
    have hg := gd_c ho
    rw [gd_e hg] at ho
    have hb := gd_c ho
    rw [gd_e hb] at ho
    refine us_callV hR dL_spoils_202 (y := 11006) (by decide +kernel) (by decide) (J := i11006) rfl rfl rfl rfl (H_kind1 h2.1 hg (by decide)) rfl (Nat.le_of_ble_eq_true rfl) hb.1 hb.2 ?_
    obtain ⟨q22, hs22⟩ := bO_ex ho
    obtain ⟨T22, r22⟩ := q22
    replace ho := bO_go ho hs22
    refine sh_11006 h2.1 hs22 (fun G22 h322 hF22 => ?_)
    have h222 := h2.cls h322 hF22
    obtain ⟨S22, hS22⟩ : ∃ Sz, Sz = lT S T22 := ⟨_, rfl⟩
    rw [bS_eq, ← hS22] at ho
    rw [← hS22] at h222
    refine us_istore hR dL_spoils_205 (Nat.le_of_ble_eq_true rfl) ?_
    refine us_iload_n hR dL_spoils_207 rfl ?_
    refine us_bipushC hR dL_spoils_208 (c := 9) (by decide) ?_
    refine us_callS hR dL_spoils_210 (y := 13001) (by decide +kernel) (by decide) (J := i13001) rfl rfl rfl rfl (rest := _) (Nat.le_of_ble_eq_true rfl) (Nat.zero_le _) (Nat.zero_le _) ?_
    obtain ⟨r23, hr23⟩ := bP_ex ho
    replace ho := bP_go ho hr23
    refine sh_13001 h222.1 hr23 ?_
    refine us_istore hR dL_spoils_213 (Nat.le_of_ble_eq_true rfl) ?_
    refine us_iload hR dL_spoils_215 rfl ?_
    refine us_if_eq hR dL_spoils_217 233 (by decide) (fun c24 => ?_) (fun c24 => ?_)
    · rw [if_pos c24] at ho
      refine us_iconstC hR dL_spoils_233 (c := 0) (by decide) ?_
      refine us_istore hR dL_spoils_234 (Nat.le_of_ble_eq_true rfl) ?_
      refine us_iconstC hR dL_spoils_236 (c := 0) (by decide) ?_
      refine us_istore hR dL_spoils_237 (Nat.le_of_ble_eq_true rfl) ?_
      exact h13036_L239 _ l0 l1 l2 l3 l4 l5 l6 0 r22 r23 0  S22 G22 _ _ h222 ho
    · rw [if_neg c24] at ho
      refine us_aload_n hR dL_spoils_220 rfl ?_
      refine us_bipushC hR dL_spoils_221 (c := 32) (by decide) ?_
      have hb := gd_c ho
      rw [gd_e hb] at ho
      refine us_callS hR dL_spoils_223 (y := 13028) (by decide +kernel) (by decide) (J := i13028) rfl rfl rfl rfl (rest := _) (Nat.le_of_ble_eq_true rfl) hb.1 hb.2 ?_
      obtain ⟨q25, hs25⟩ := bO_ex ho
      obtain ⟨T25, r25⟩ := q25
      replace ho := bO_go ho hs25
      refine sh_13028 h222.1 hs25 (fun G25 hb25 h325 hF25 => ?_)
      have h225 := h222.cls h325 hF25
      obtain ⟨S25, hS25⟩ : ∃ Sz, Sz = lT S22 T25 := ⟨_, rfl⟩
      rw [bS_eq, ← hS25] at ho
      rw [← hS25] at h225
      refine us_if_eq hR dL_spoils_226 233 (by decide) (fun c26 => ?_) (fun c26 => ?_)
      · rw [if_pos c26] at ho
        refine us_iconstC hR dL_spoils_233 (c := 0) (by decide) ?_
        refine us_istore hR dL_spoils_234 (Nat.le_of_ble_eq_true rfl) ?_
        refine us_iconstC hR dL_spoils_236 (c := 0) (by decide) ?_
        refine us_istore hR dL_spoils_237 (Nat.le_of_ble_eq_true rfl) ?_
        exact h13036_L239 _ l0 l1 l2 l3 l4 l5 l6 0 r22 r23 0  S25 G25 _ _ h225 ho
      · rw [if_neg c26] at ho
        refine us_iconstC hR dL_spoils_229 (c := 1) (by decide) ?_
        refine us_goto hR dL_spoils_230 234 (by decide) ?_
        refine us_istore hR dL_spoils_234 (Nat.le_of_ble_eq_true rfl) ?_
        refine us_iconstC hR dL_spoils_236 (c := 0) (by decide) ?_
        refine us_istore hR dL_spoils_237 (Nat.le_of_ble_eq_true rfl) ?_
        exact h13036_L239 _ l0 l1 l2 l3 l4 l5 l6 1 r22 r23 0  S25 G25 _ _ h225 ho
  have h13036_J198 : ∀ (l0 : Nat) (l1 : Nat) (l2 : Int32) (l3 : Int32) (l4 : Int32) (l5 : Int32) (l6 : Int32)  (S : Lx) (Ga : ab_G) (bc bs : Nat) (h2 : LRep Ga S) (ho : l_13036_J198 l0 l1 l2 l3 l4 l5 l6 bc bs S = some o), R 198 [some (.ref l0), some (.ref l1), some (.int l2), some (.int l3), some (.int l4), some (.int l5), some (.int l6), none, none, none, none] [] Ga bc bs := by
    intro l0 l1 l2 l3 l4 l5 l6  S Ga bc bs h2 ho
    unfold l_13036_J198 at ho
    refine us_iconstC hR dL_spoils_198 (c := 0) (by decide) ?_
    exact h13036_J199 l0 l1 l2 l3 l4 l5 l6 0  S Ga _ _ h2 ho
  have h13036_J191 : ∀ (l0 : Nat) (l1 : Nat) (l2 : Int32) (l3 : Int32) (l4 : Int32) (l5 : Int32) (l6 : Int32) (k0 : Int32) (k1 : Int32)  (S : Lx) (Ga : ab_G) (bc bs : Nat) (h2 : LRep Ga S) (ho : l_13036_J191 l0 l1 l2 l3 l4 l5 l6 k0 k1 bc bs S = some o), R 191 [some (.ref l0), some (.ref l1), some (.int l2), some (.int l3), some (.int l4), some (.int l5), some (.int l6), none, none, none, none] [.int k0, .int k1] Ga bc bs := by
    intro l0 l1 l2 l3 l4 l5 l6 k0 k1  S Ga bc bs h2 ho
    unfold l_13036_J191 at ho
    refine us_icmp_ne hR dL_spoils_191 198 (by decide) (fun c27 => ?_) (fun c27 => ?_)
    · rw [if_neg c27] at ho
      exact h13036_J198 l0 l1 l2 l3 l4 l5 l6  S Ga _ _ h2 ho
    · rw [if_pos c27] at ho
      refine us_iconstC hR dL_spoils_194 (c := 1) (by decide) ?_
      refine us_goto hR dL_spoils_195 199 (by decide) ?_
      exact h13036_J199 l0 l1 l2 l3 l4 l5 l6 1  S Ga _ _ h2 ho
  have h13036_J134 : ∀ (l0 : Nat) (l1 : Nat) (l2 : Int32) (l3 : Int32) (l4 : Int32) (l5 : Int32) (l6 : Int32) (k0 : Int32) (k1 : Int32)  (S : Lx) (Ga : ab_G) (bc bs : Nat) (h2 : LRep Ga S) (ho : l_13036_J134 l0 l1 l2 l3 l4 l5 l6 k0 k1 bc bs S = some o), R 134 [some (.ref l0), some (.ref l1), some (.int l2), some (.int l3), some (.int l4), some (.int l5), some (.int l6), none, none, none, none] [.int k0, .int k1] Ga bc bs := by
    intro l0 l1 l2 l3 l4 l5 l6 k0 k1  S Ga bc bs h2 ho
    unfold l_13036_J134 at ho
    refine us_icmp_ne hR dL_spoils_134 198 (by decide) (fun c28 => ?_) (fun c28 => ?_)
    · rw [if_neg c28] at ho
      exact h13036_J198 l0 l1 l2 l3 l4 l5 l6  S Ga _ _ h2 ho
    · rw [if_pos c28] at ho
      refine us_aload_n hR dL_spoils_137 rfl ?_
      have hg := gd_c ho
      rw [gd_e hg] at ho
      have hb := gd_c ho
      rw [gd_e hb] at ho
      refine us_callV hR dL_spoils_138 (y := 11007) (by decide +kernel) (by decide) (J := i11007) rfl rfl rfl rfl (H_kind1 h2.1 hg (by decide)) rfl (Nat.le_of_ble_eq_true rfl) hb.1 hb.2 ?_
      obtain ⟨q29, hs29⟩ := bO_ex ho
      obtain ⟨T29, r29⟩ := q29
      replace ho := bO_go ho hs29
      refine sh_11007 h2.1 hs29 (fun G29 h329 hF29 => ?_)
      have h229 := h2.cls h329 hF29
      obtain ⟨S29, hS29⟩ : ∃ Sz, Sz = lT S T29 := ⟨_, rfl⟩
      rw [bS_eq, ← hS29] at ho
      rw [← hS29] at h229
      refine us_iload hR dL_spoils_141 rfl ?_
      refine us_icmp_ne hR dL_spoils_143 198 (by decide) (fun c30 => ?_) (fun c30 => ?_)
      · rw [if_neg c30] at ho
        exact h13036_J198 l0 l1 l2 l3 l4 l5 l6  S29 G29 _ _ h229 ho
      · rw [if_pos c30] at ho
        refine us_aload_n hR dL_spoils_146 rfl ?_
        have hg := gd_c ho
        rw [gd_e hg] at ho
        have hme := hg
        have hb := gd_c ho
        rw [gd_e hb] at ho
        refine us_callS hR dL_spoils_147 (y := 13005) (by decide +kernel) (by decide) (J := i13005) rfl rfl rfl rfl (rest := _) (Nat.le_of_ble_eq_true rfl) hb.1 hb.2 ?_
        obtain ⟨q31, hs31⟩ := bO_ex ho
        obtain ⟨T31, r31⟩ := q31
        replace ho := bO_go ho hs31
        refine sh_13005 h229.1 hme hs31 (fun G31 h331 hF31 => ?_)
        have h231 := h229.cls h331 hF31
        obtain ⟨S31, hS31⟩ : ∃ Sz, Sz = lT S29 T31 := ⟨_, rfl⟩
        rw [bS_eq, ← hS31] at ho
        rw [← hS31] at h231
        refine us_ldc hR dL_spoils_150 (v := (-1000003)) (by decide +kernel) ?_
        refine us_icmp_ne hR dL_spoils_152 198 (by decide) (fun c32 => ?_) (fun c32 => ?_)
        · rw [if_neg c32] at ho
          exact h13036_J198 l0 l1 l2 l3 l4 l5 l6  S31 G31 _ _ h231 ho
        · rw [if_pos c32] at ho
          refine us_aload_n hR dL_spoils_155 rfl ?_
          refine us_bipushC hR dL_spoils_156 (c := 9) (by decide) ?_
          refine us_iconstC hR dL_spoils_158 (c := 0) (by decide) ?_
          refine us_iconstC hR dL_spoils_159 (c := 0) (by decide) ?_
          have hg := gd_c ho
          rw [gd_e hg] at ho
          have hme := hg
          have hb := gd_c ho
          rw [gd_e hb] at ho
          refine us_callS hR dL_spoils_160 (y := 13006) (by decide +kernel) (by decide) (J := i13006) rfl rfl rfl rfl (rest := _) (Nat.le_of_ble_eq_true rfl) hb.1 hb.2 ?_
          obtain ⟨q33, hs33⟩ := bO_ex ho
          obtain ⟨T33, r33⟩ := q33
          replace ho := bO_go ho hs33
          refine sh_13006 h231.1 hme hs33 (fun G33 h333 hF33 => ?_)
          have h233 := h231.cls h333 hF33
          obtain ⟨S33, hS33⟩ : ∃ Sz, Sz = lT S31 T33 := ⟨_, rfl⟩
          rw [bS_eq, ← hS33] at ho
          rw [← hS33] at h233
          refine us_ldc hR dL_spoils_163 (v := (-1000003)) (by decide +kernel) ?_
          refine us_icmp_ne hR dL_spoils_165 198 (by decide) (fun c34 => ?_) (fun c34 => ?_)
          · rw [if_neg c34] at ho
            exact h13036_J198 l0 l1 l2 l3 l4 l5 l6  S33 G33 _ _ h233 ho
          · rw [if_pos c34] at ho
            refine us_aload_n hR dL_spoils_168 rfl ?_
            refine us_iconstC hR dL_spoils_169 (c := 0) (by decide) ?_
            refine us_aload_n hR dL_spoils_170 rfl ?_
            refine us_iconstC hR dL_spoils_171 (c := 0) (by decide) ?_
            have hg := gd_c ho
            rw [gd_e hg] at ho
            refine ul_iaload h233 hg hR dL_spoils_172 ?_
            refine us_iconstC hR dL_spoils_173 (c := 1) (by decide) ?_
            refine us_isub hR dL_spoils_174 ?_
            have hg := gd_c ho
            rw [gd_e hg] at ho
            have hme := hg
            have hb := gd_c ho
            rw [gd_e hb] at ho
            refine us_callS hR dL_spoils_175 (y := 13014) (by decide +kernel) (by decide) (J := i13014) rfl rfl rfl rfl (rest := _) (Nat.le_of_ble_eq_true rfl) hb.1 hb.2 ?_
            obtain ⟨q35, hs35⟩ := bO_ex ho
            obtain ⟨T35, r35⟩ := q35
            replace ho := bO_go ho hs35
            refine sh_13014 h233.1 hme hs35 (fun G35 h335 hF35 => ?_)
            have h235 := h233.cls h335 hF35
            obtain ⟨S35, hS35⟩ : ∃ Sz, Sz = lT S33 T35 := ⟨_, rfl⟩
            rw [bS_eq, ← hS35] at ho
            rw [← hS35] at h235
            refine us_aload_n hR dL_spoils_178 rfl ?_
            refine us_iconstC hR dL_spoils_179 (c := 0) (by decide) ?_
            have hg := gd_c ho
            rw [gd_e hg] at ho
            refine ul_iaload h235 hg hR dL_spoils_180 ?_
            refine us_if_ne hR dL_spoils_181 189 (by decide) (fun c36 => ?_) (fun c36 => ?_)
            · rw [if_neg c36] at ho
              refine us_ldc hR dL_spoils_189 (v := (-1000003)) (by decide +kernel) ?_
              exact h13036_J191 l0 l1 l2 l3 l4 l5 l6 (-1000003) r35  S35 G35 _ _ h235 ho
            · rw [if_pos c36] at ho
              refine us_ldc hR dL_spoils_184 (v := (-1000001)) (by decide +kernel) ?_
              refine us_goto hR dL_spoils_186 191 (by decide) ?_
              exact h13036_J191 l0 l1 l2 l3 l4 l5 l6 (-1000001) r35  S35 G35 _ _ h235 ho
  have h13036_J129 : ∀ (l0 : Nat) (l1 : Nat) (l2 : Int32) (l3 : Int32) (l4 : Int32) (l5 : Int32) (l6 : Int32) (k0 : Int32)  (S : Lx) (Ga : ab_G) (bc bs : Nat) (h2 : LRep Ga S) (ho : l_13036_J129 l0 l1 l2 l3 l4 l5 l6 k0 bc bs S = some o), R 129 [some (.ref l0), some (.ref l1), some (.int l2), some (.int l3), some (.int l4), some (.int l5), some (.int l6), none, none, none, none] [.int k0] Ga bc bs := by
    intro l0 l1 l2 l3 l4 l5 l6 k0  S Ga bc bs h2 ho
    unfold l_13036_J129 at ho
    refine us_iconstC hR dL_spoils_129 (c := 1) (by decide) ?_
    refine us_goto hR dL_spoils_130 134 (by decide) ?_
    exact h13036_J134 l0 l1 l2 l3 l4 l5 l6 1 k0  S Ga _ _ h2 ho
  have h13036_J102 : ∀ (l0 : Nat) (l1 : Nat) (l2 : Int32) (l3 : Int32) (l4 : Int32) (l5 : Int32) (k0 : Int32)  (S : Lx) (Ga : ab_G) (bc bs : Nat) (h2 : LRep Ga S) (ho : l_13036_J102 l0 l1 l2 l3 l4 l5 k0 bc bs S = some o), R 102 [some (.ref l0), some (.ref l1), some (.int l2), some (.int l3), some (.int l4), some (.int l5), none, none, none, none, none] [.int k0] Ga bc bs := by
    intro l0 l1 l2 l3 l4 l5 k0  S Ga bc bs h2 ho
    unfold l_13036_J102 at ho
    refine us_istore hR dL_spoils_102 (Nat.le_of_ble_eq_true rfl) ?_
    refine us_aload_n hR dL_spoils_104 rfl ?_
    refine us_iload hR dL_spoils_105 rfl ?_
    have hb := gd_c ho
    rw [gd_e hb] at ho
    refine us_callS hR dL_spoils_107 (y := 13028) (by decide +kernel) (by decide) (J := i13028) rfl rfl rfl rfl (rest := _) (Nat.le_of_ble_eq_true rfl) hb.1 hb.2 ?_
    obtain ⟨q37, hs37⟩ := bO_ex ho
    obtain ⟨T37, r37⟩ := q37
    replace ho := bO_go ho hs37
    refine sh_13028 h2.1 hs37 (fun G37 hb37 h337 hF37 => ?_)
    have h237 := h2.cls h337 hF37
    obtain ⟨S37, hS37⟩ : ∃ Sz, Sz = lT S T37 := ⟨_, rfl⟩
    rw [bS_eq, ← hS37] at ho
    rw [← hS37] at h237
    refine us_if_eq hR dL_spoils_110 198 (by decide) (fun c38 => ?_) (fun c38 => ?_)
    · rw [if_pos c38] at ho
      exact h13036_J198 l0 l1 l2 l3 l4 l5 k0  S37 G37 _ _ h237 ho
    · rw [if_neg c38] at ho
      refine us_aload_n hR dL_spoils_113 rfl ?_
      have hg := gd_c ho
      rw [gd_e hg] at ho
      have hb := gd_c ho
      rw [gd_e hb] at ho
      refine us_callV hR dL_spoils_114 (y := 11006) (by decide +kernel) (by decide) (J := i11006) rfl rfl rfl rfl (H_kind1 h237.1 hg (by decide)) rfl (Nat.le_of_ble_eq_true rfl) hb.1 hb.2 ?_
      obtain ⟨q39, hs39⟩ := bO_ex ho
      obtain ⟨T39, r39⟩ := q39
      replace ho := bO_go ho hs39
      refine sh_11006 h237.1 hs39 (fun G39 h339 hF39 => ?_)
      have h239 := h237.cls h339 hF39
      obtain ⟨S39, hS39⟩ : ∃ Sz, Sz = lT S37 T39 := ⟨_, rfl⟩
      rw [bS_eq, ← hS39] at ho
      rw [← hS39] at h239
      refine us_iload hR dL_spoils_117 rfl ?_
      refine us_iconstC hR dL_spoils_119 (c := 2) (by decide) ?_
      refine us_icmp_eq hR dL_spoils_120 129 (by decide) (fun c40 => ?_) (fun c40 => ?_)
      · rw [if_pos c40] at ho
        exact h13036_J129 l0 l1 l2 l3 l4 l5 k0 r39  S39 G39 _ _ h239 ho
      · rw [if_neg c40] at ho
        refine us_iload hR dL_spoils_123 rfl ?_
        refine us_iconstC hR dL_spoils_125 (c := 3) (by decide) ?_
        refine us_icmp_ne hR dL_spoils_126 133 (by decide) (fun c41 => ?_) (fun c41 => ?_)
        · rw [if_neg c41] at ho
          refine us_iconstC hR dL_spoils_133 (c := 3) (by decide) ?_
          exact h13036_J134 l0 l1 l2 l3 l4 l5 k0 3 r39  S39 G39 _ _ h239 ho
        · rw [if_pos c41] at ho
          exact h13036_J129 l0 l1 l2 l3 l4 l5 k0 r39  S39 G39 _ _ h239 ho
  change R _ _ _ _ 620 44000
  refine us_aload_n hR dL_spoils_0 rfl ?_
  have hg := gd_c ho
  rw [gd_e hg] at ho
  refine us_callV hR dL_spoils_1 (y := 11004) (by decide +kernel) (by decide) (J := i11004) rfl rfl rfl rfl (H_kind1 h2.1 hg (by decide)) rfl (Nat.le_of_ble_eq_true rfl) (Nat.zero_le _) (Nat.zero_le _) ?_
  obtain ⟨r42, hr42⟩ := bP_ex ho
  replace ho := bP_go ho hr42
  refine sh_11004 h2.1 hr42 ?_
  refine us_istore hR dL_spoils_4 (Nat.le_of_ble_eq_true rfl) ?_
  refine us_iload hR dL_spoils_6 rfl ?_
  refine us_sipushC hR dL_spoils_8 (c := 280) (by decide) ?_
  refine us_icmp_le hR dL_spoils_11 27 (by decide) (fun c43 => ?_) (fun c43 => ?_)
  · rw [if_pos c43] at ho
    change R _ _ _ _ 620 44000
    refine us_iload_n hR dL_spoils_27 rfl ?_
    refine us_bipushC hR dL_spoils_28 (c := 7) (by decide) ?_
    refine us_callS hR dL_spoils_30 (y := 13001) (by decide +kernel) (by decide) (J := i13001) rfl rfl rfl rfl (rest := _) (Nat.le_of_ble_eq_true rfl) (Nat.zero_le _) (Nat.zero_le _) ?_
    obtain ⟨r44, hr44⟩ := bP_ex ho
    replace ho := bP_go ho hr44
    refine sh_13001 h2.1 hr44 ?_
    refine us_istore hR dL_spoils_33 (Nat.le_of_ble_eq_true rfl) ?_
    refine us_iload hR dL_spoils_35 rfl ?_
    refine us_if_ne hR dL_spoils_37 45 (by decide) (fun c45 => ?_) (fun c45 => ?_)
    · rw [if_neg c45] at ho
      change R _ _ _ _ 620 44000
      refine us_iload hR dL_spoils_45 rfl ?_
      refine us_iconstC hR dL_spoils_47 (c := 1) (by decide) ?_
      refine us_icmp_ne hR dL_spoils_48 56 (by decide) (fun c46 => ?_) (fun c46 => ?_)
      · rw [if_neg c46] at ho
        change R _ _ _ _ 620 44000
        refine us_iload hR dL_spoils_56 rfl ?_
        refine us_iconstC hR dL_spoils_58 (c := 2) (by decide) ?_
        refine us_icmp_ne hR dL_spoils_59 67 (by decide) (fun c47 => ?_) (fun c47 => ?_)
        · rw [if_neg c47] at ho
          change R _ _ _ _ 620 44000
          refine us_iload hR dL_spoils_67 rfl ?_
          refine us_iconstC hR dL_spoils_69 (c := 3) (by decide) ?_
          refine us_icmp_ne hR dL_spoils_70 78 (by decide) (fun c48 => ?_) (fun c48 => ?_)
          · rw [if_neg c48] at ho
            change R _ _ _ _ 620 44000
            refine us_iload hR dL_spoils_78 rfl ?_
            refine us_iconstC hR dL_spoils_80 (c := 4) (by decide) ?_
            refine us_icmp_ne hR dL_spoils_81 89 (by decide) (fun c49 => ?_) (fun c49 => ?_)
            · rw [if_neg c49] at ho
              change R _ _ _ _ 620 44000
              refine us_iload hR dL_spoils_89 rfl ?_
              refine us_iconstC hR dL_spoils_91 (c := 5) (by decide) ?_
              refine us_icmp_ne hR dL_spoils_92 100 (by decide) (fun c50 => ?_) (fun c50 => ?_)
              · rw [if_neg c50] at ho
                change R _ _ _ _ 620 44000
                refine us_bipushC hR dL_spoils_100 (c := 61) (by decide) ?_
                exact h13036_J102 x0 x1 x2 x3 r42 r44 61  S G _ _ h2 ho
              · rw [if_pos c50] at ho
                change R _ _ _ _ 620 44000
                refine us_bipushC hR dL_spoils_95 (c := 53) (by decide) ?_
                refine us_goto hR dL_spoils_97 102 (by decide) ?_
                exact h13036_J102 x0 x1 x2 x3 r42 r44 53  S G _ _ h2 ho
            · rw [if_pos c49] at ho
              change R _ _ _ _ 620 44000
              refine us_bipushC hR dL_spoils_84 (c := 59) (by decide) ?_
              refine us_goto hR dL_spoils_86 102 (by decide) ?_
              exact h13036_J102 x0 x1 x2 x3 r42 r44 59  S G _ _ h2 ho
          · rw [if_pos c48] at ho
            change R _ _ _ _ 620 44000
            refine us_bipushC hR dL_spoils_73 (c := 65) (by decide) ?_
            refine us_goto hR dL_spoils_75 102 (by decide) ?_
            exact h13036_J102 x0 x1 x2 x3 r42 r44 65  S G _ _ h2 ho
        · rw [if_pos c47] at ho
          change R _ _ _ _ 620 44000
          refine us_bipushC hR dL_spoils_62 (c := 38) (by decide) ?_
          refine us_goto hR dL_spoils_64 102 (by decide) ?_
          exact h13036_J102 x0 x1 x2 x3 r42 r44 38  S G _ _ h2 ho
      · rw [if_pos c46] at ho
        change R _ _ _ _ 620 44000
        refine us_bipushC hR dL_spoils_51 (c := 41) (by decide) ?_
        refine us_goto hR dL_spoils_53 102 (by decide) ?_
        exact h13036_J102 x0 x1 x2 x3 r42 r44 41  S G _ _ h2 ho
    · rw [if_pos c45] at ho
      change R _ _ _ _ 620 44000
      refine us_bipushC hR dL_spoils_40 (c := 125) (by decide) ?_
      refine us_goto hR dL_spoils_42 102 (by decide) ?_
      exact h13036_J102 x0 x1 x2 x3 r42 r44 125  S G _ _ h2 ho
  · rw [if_neg c43] at ho
    change R _ _ _ _ 620 44000
    refine us_aload_n hR dL_spoils_14 rfl ?_
    have hg := gd_c ho
    rw [gd_e hg] at ho
    refine us_callV hR dL_spoils_15 (y := 11006) (by decide +kernel) (by decide) (J := i11006) rfl rfl rfl rfl (H_kind1 h2.1 hg (by decide)) rfl (Nat.le_of_ble_eq_true rfl) (Nat.le_of_ble_eq_true rfl) (Nat.le_of_ble_eq_true rfl) ?_
    obtain ⟨q51, hs51⟩ := bO_ex ho
    obtain ⟨T51, r51⟩ := q51
    replace ho := bO_go ho hs51
    refine sh_11006 h2.1 hs51 (fun G51 h351 hF51 => ?_)
    have h251 := h2.cls h351 hF51
    obtain ⟨S51, hS51⟩ : ∃ Sz, Sz = lT S T51 := ⟨_, rfl⟩
    rw [bS_eq, ← hS51] at ho
    rw [← hS51] at h251
    change R _ _ _ _ 580 40300
    refine us_if_ne hR dL_spoils_18 25 (by decide) (fun c52 => ?_) (fun c52 => ?_)
    · rw [if_neg c52] at ho
      change R _ _ _ _ 580 40300
      refine us_iconstC hR dL_spoils_25 (c := 0) (by decide) ?_
      refine us_iret hR dL_spoils_26 rfl (nar01 (Or.inl rfl)) ?_
      cases ho
      exact h _ (Or.inl rfl) h251
    · rw [if_pos c52] at ho
      change R _ _ _ _ 580 40300
      refine us_iconstC hR dL_spoils_21 (c := 1) (by decide) ?_
      refine us_goto hR dL_spoils_22 26 (by decide) ?_
      refine us_iret hR dL_spoils_26 rfl (nar01 (Or.inr rfl)) ?_
      cases ho
      exact h _ (Or.inr rfl) h251
end
