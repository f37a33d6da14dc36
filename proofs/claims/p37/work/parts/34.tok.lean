/-! shadows: marks with two operands, the tokens -/
def f_7018_J94  (l1 : Int32) (l2 : Int32) (l3 : Int32) (s : Sx) : Sx × Int32 :=
  if l3 = 0 then
    bS (f_7008 3 s) fun s5 =>
    (s5, 0)
  else
    if l1 = 15 then
      bT (f_7019 (l2.toInt64 / l3.toInt64) s) fun s4 r4 =>
      (s4, r4)
    else
      bT (f_7019 (l2.toInt64 - l2.toInt64 / l3.toInt64 * l3.toInt64) s) fun s3 r3 =>
      (s3, r3)
def f_7018 (x0 : Int32) (x1 : Int32) (x2 : Int32) (s : Sx) : Sx × Int32 :=
  bT (f_7009 s) fun s6 r6 =>
  if r6 = 0 then
    (s6, 0)
  else
    if x0 = 12 then
      bT (f_7019 (x1.toInt64 + x2.toInt64) s6) fun s10 r10 =>
      (s10, r10)
    else if x0 = 13 then
      bT (f_7019 (x1.toInt64 - x2.toInt64) s6) fun s11 r11 =>
      (s11, r11)
    else if x0 = 14 then
      bT (f_7019 (x1.toInt64 * x2.toInt64) s6) fun s12 r12 =>
      (s12, r12)
    else if x0 = 15 then
      f_7018_J94 x0 x1 x2 s6
    else if x0 = 16 then
      f_7018_J94 x0 x1 x2 s6
    else if x0 = 17 then
      if x2 ≤ x1 then
        (s6, 0)
      else
        (s6, 1)
    else if x0 = 18 then
      if x2 < x1 then
        (s6, 0)
      else
        (s6, 1)
    else if x0 = 19 then
      if x1 ≤ x2 then
        (s6, 0)
      else
        (s6, 1)
    else if x0 = 20 then
      if x1 < x2 then
        (s6, 0)
      else
        (s6, 1)
    else if x0 = 21 then
      if x1 = x2 then
        (s6, 1)
      else
        (s6, 0)
    else
      if x1 = x2 then
        (s6, 0)
      else
        (s6, 1)
theorem sp_7018 {d : Nat} {G : ab_G} {ad : Nat → Nat} {I : Nat → Nat → Int32} {s : Sx} {P : ab_Pq} {X : ab_Xq} (hE : EV G ad) (hP : Rep I ad s) {x0 : Int32} {x1 : Int32} {x2 : Int32}  (h : ∀ I1 o, o = f_7018 x0 x1 x2 s → Rep I1 ad o.1 → FrE ad I I1 → P (gW G I1) (some (.int o.2))) : ab_Gam (d + 3) 7018 [.ref (ad 3), .int x0, .int x1, .int x2] (gW G I) P X := by
  obtain ⟨o, ho⟩ : ∃ o, o = f_7018 x0 x1 x2 s := ⟨_, rfl⟩
  have h2 := fun I1 => h I1 o ho
  have hF : FrE ad I I := FrE_rfl
  unfold f_7018 at ho
  refine ab_enter (I := i7018) rfl (Nat.le_of_ble_eq_true rfl) (fun R hR => ?_)
  have h7018_J94 : ∀ (l1 : Int32) (l2 : Int32) (l3 : Int32)  (s : Sx) (Ia : Nat → Nat → Int32) (bc bs : Nat) (hPa : Rep Ia ad s) (hFa : FrE ad I Ia) (ho : o = f_7018_J94 l1 l2 l3 s), R 94 [some (.ref (ad 3)), some (.int l1), some (.int l2), some (.int l3)] [] (gW G Ia) bc bs := by
    intro l1 l2 l3  s Ia bc bs  hPa hFa ho
    unfold f_7018_J94 at ho
    refine us_iload_n hR dX6_two_94 rfl ?_
    refine us_if_ne hR dX6_two_95 105 (by decide) (fun c1 => ?_) (fun c1 => ?_)
    · rw [if_neg c1] at ho
      refine us_aload_n hR dX6_two_105 rfl ?_
      refine us_iload_n hR dX6_two_106 rfl ?_
      refine us_bipushC hR dX6_two_107 (c := 15) (by decide) ?_
      refine us_icmp_ne hR dX6_two_109 120 (by decide) (fun c2 => ?_) (fun c2 => ?_)
      · rw [if_neg c2] at ho
        refine us_iload_n hR dX6_two_120 rfl ?_
        refine us_i2l hR dX6_two_121 ?_
        refine us_iload_n hR dX6_two_122 rfl ?_
        refine us_i2l hR dX6_two_123 ?_
        refine us_lrem hR dX6_two_124 (by first | assumption | exact i64_ne (by assumption)) ?_
        refine us_callV hR dX6_two_125 (y := 7019) (by decide +kernel) (by decide) (J := i7019) rfl rfl rfl rfl (ev_k3 hE) rfl (Nat.le_of_ble_eq_true rfl) (Nat.zero_le _) (Nat.zero_le _) ?_
        refine sp_7019 hE hPa  (fun I3 q3 hs3 hP3 hF3 => ?_)
        rw [← hs3] at ho
        obtain ⟨s3, r3⟩ := q3
        rw [bT_eq] at ho
        have hF3 := hFa.tr hF3
        refine us_iret hR dX6_two_128 rfl rfl ?_
        subst ho
        exact h2 _ hP3 hF3
      · rw [if_pos c2] at ho
        refine us_iload_n hR dX6_two_112 rfl ?_
        refine us_i2l hR dX6_two_113 ?_
        refine us_iload_n hR dX6_two_114 rfl ?_
        refine us_i2l hR dX6_two_115 ?_
        refine us_ldiv hR dX6_two_116 (by first | assumption | exact i64_ne (by assumption)) ?_
        refine us_goto hR dX6_two_117 125 (by decide) ?_
        refine us_callV hR dX6_two_125 (y := 7019) (by decide +kernel) (by decide) (J := i7019) rfl rfl rfl rfl (ev_k3 hE) rfl (Nat.le_of_ble_eq_true rfl) (Nat.zero_le _) (Nat.zero_le _) ?_
        refine sp_7019 hE hPa  (fun I4 q4 hs4 hP4 hF4 => ?_)
        rw [← hs4] at ho
        obtain ⟨s4, r4⟩ := q4
        rw [bT_eq] at ho
        have hF4 := hFa.tr hF4
        refine us_iret hR dX6_two_128 rfl rfl ?_
        subst ho
        exact h2 _ hP4 hF4
    · rw [if_pos c1] at ho
      refine us_aload_n hR dX6_two_98 rfl ?_
      refine us_iconstC hR dX6_two_99 (c := 3) (by decide) ?_
      refine us_callV hR dX6_two_100 (y := 7008) (by decide +kernel) (by decide) (J := i7008) rfl rfl rfl rfl (ev_k3 hE) rfl (Nat.le_of_ble_eq_true rfl) (Nat.zero_le _) (Nat.zero_le _) ?_
      refine sp_7008 hE hPa  (fun I5 s5 hs5 hP5 hF5 => ?_)
      rw [← hs5, bS_eq] at ho
      have hF5 := hFa.tr hF5
      refine us_iconstC hR dX6_two_103 (c := 0) (by decide) ?_
      refine us_iret hR dX6_two_104 rfl rfl ?_
      subst ho
      exact h2 _ hP5 hF5
  refine us_aload_n hR dX6_two_0 rfl ?_
  refine us_callV hR dX6_two_1 (y := 7009) (by decide +kernel) (by decide) (J := i7009) rfl rfl rfl rfl (ev_k3 hE) rfl (Nat.le_of_ble_eq_true rfl) (Nat.zero_le _) (Nat.zero_le _) ?_
  refine sp_7009 hE hP  (fun I6 q6 hs6 hb6 hP6 hF6 => ?_)
  rw [← hs6] at ho
  obtain ⟨s6, r6⟩ := q6
  rw [bT_eq] at ho
  have hF6 := hF.tr hF6
  refine us_if_ne hR dX6_two_4 9 (by decide) (fun c7 => ?_) (fun c7 => ?_)
  · rw [if_neg c7] at ho
    refine us_iload_n hR dX6_two_9 rfl ?_
    refine us_tsw hR dX6_two_10 (fun c8 => ⟨by decide, ?_⟩) (by decide) ⟨fun c8 => ⟨by decide, ?_⟩, fun c8 => ⟨by decide, ?_⟩, fun c8 => ⟨by decide, ?_⟩, fun c8 => ⟨by decide, ?_⟩, fun c8 => ⟨by decide, ?_⟩, fun c8 => ⟨by decide, ?_⟩, fun c8 => ⟨by decide, ?_⟩, fun c8 => ⟨by decide, ?_⟩, fun c8 => ⟨by decide, ?_⟩, fun c8 => ⟨by decide, ?_⟩, trivial⟩
    · rw [if_neg (i_sw_d (v := 12) c8 (by decide)), if_neg (i_sw_d (v := 13) c8 (by decide)), if_neg (i_sw_d (v := 14) c8 (by decide)), if_neg (i_sw_d (v := 15) c8 (by decide)), if_neg (i_sw_d (v := 16) c8 (by decide)), if_neg (i_sw_d (v := 17) c8 (by decide)), if_neg (i_sw_d (v := 18) c8 (by decide)), if_neg (i_sw_d (v := 19) c8 (by decide)), if_neg (i_sw_d (v := 20) c8 (by decide)), if_neg (i_sw_d (v := 21) c8 (by decide))] at ho
      refine us_iload_n hR dX6_two_184 rfl ?_
      refine us_iload_n hR dX6_two_185 rfl ?_
      refine us_icmp_eq hR dX6_two_186 193 (by decide) (fun c9 => ?_) (fun c9 => ?_)
      · rw [if_pos c9] at ho
        refine us_iconstC hR dX6_two_193 (c := 0) (by decide) ?_
        refine us_iret hR dX6_two_194 rfl rfl ?_
        subst ho
        exact h2 _ hP6 hF6
      · rw [if_neg c9] at ho
        refine us_iconstC hR dX6_two_189 (c := 1) (by decide) ?_
        refine us_goto hR dX6_two_190 194 (by decide) ?_
        refine us_iret hR dX6_two_194 rfl rfl ?_
        subst ho
        exact h2 _ hP6 hF6
    · rw [if_pos (i_sw (v := 12) c8)] at ho
      refine us_aload_n hR dX6_two_64 rfl ?_
      refine us_iload_n hR dX6_two_65 rfl ?_
      refine us_i2l hR dX6_two_66 ?_
      refine us_iload_n hR dX6_two_67 rfl ?_
      refine us_i2l hR dX6_two_68 ?_
      refine us_ladd hR dX6_two_69 ?_
      refine us_callV hR dX6_two_70 (y := 7019) (by decide +kernel) (by decide) (J := i7019) rfl rfl rfl rfl (ev_k3 hE) rfl (Nat.le_of_ble_eq_true rfl) (Nat.zero_le _) (Nat.zero_le _) ?_
      refine sp_7019 hE hP6  (fun I10 q10 hs10 hP10 hF10 => ?_)
      rw [← hs10] at ho
      obtain ⟨s10, r10⟩ := q10
      rw [bT_eq] at ho
      have hF10 := hF6.tr hF10
      refine us_iret hR dX6_two_73 rfl rfl ?_
      subst ho
      exact h2 _ hP10 hF10
    · rw [if_neg (i_sw_x (v := 13) (w := 12) c8 (by decide)), if_pos (i_sw (v := 13) c8)] at ho
      refine us_aload_n hR dX6_two_74 rfl ?_
      refine us_iload_n hR dX6_two_75 rfl ?_
      refine us_i2l hR dX6_two_76 ?_
      refine us_iload_n hR dX6_two_77 rfl ?_
      refine us_i2l hR dX6_two_78 ?_
      refine us_lsub hR dX6_two_79 ?_
      refine us_callV hR dX6_two_80 (y := 7019) (by decide +kernel) (by decide) (J := i7019) rfl rfl rfl rfl (ev_k3 hE) rfl (Nat.le_of_ble_eq_true rfl) (Nat.zero_le _) (Nat.zero_le _) ?_
      refine sp_7019 hE hP6  (fun I11 q11 hs11 hP11 hF11 => ?_)
      rw [← hs11] at ho
      obtain ⟨s11, r11⟩ := q11
      rw [bT_eq] at ho
      have hF11 := hF6.tr hF11
      refine us_iret hR dX6_two_83 rfl rfl ?_
      subst ho
      exact h2 _ hP11 hF11
    · rw [if_neg (i_sw_x (v := 14) (w := 12) c8 (by decide)), if_neg (i_sw_x (v := 14) (w := 13) c8 (by decide)), if_pos (i_sw (v := 14) c8)] at ho
      refine us_aload_n hR dX6_two_84 rfl ?_
      refine us_iload_n hR dX6_two_85 rfl ?_
      refine us_i2l hR dX6_two_86 ?_
      refine us_iload_n hR dX6_two_87 rfl ?_
      refine us_i2l hR dX6_two_88 ?_
      refine us_lmul hR dX6_two_89 ?_
      refine us_callV hR dX6_two_90 (y := 7019) (by decide +kernel) (by decide) (J := i7019) rfl rfl rfl rfl (ev_k3 hE) rfl (Nat.le_of_ble_eq_true rfl) (Nat.zero_le _) (Nat.zero_le _) ?_
      refine sp_7019 hE hP6  (fun I12 q12 hs12 hP12 hF12 => ?_)
      rw [← hs12] at ho
      obtain ⟨s12, r12⟩ := q12
      rw [bT_eq] at ho
      have hF12 := hF6.tr hF12
      refine us_iret hR dX6_two_93 rfl rfl ?_
      subst ho
      exact h2 _ hP12 hF12
    · rw [if_neg (i_sw_x (v := 15) (w := 12) c8 (by decide)), if_neg (i_sw_x (v := 15) (w := 13) c8 (by decide)), if_neg (i_sw_x (v := 15) (w := 14) c8 (by decide)), if_pos (i_sw (v := 15) c8)] at ho
      exact h7018_J94 x0 x1 x2  s6 I6 _ _ hP6 hF6 ho
    · rw [if_neg (i_sw_x (v := 16) (w := 12) c8 (by decide)), if_neg (i_sw_x (v := 16) (w := 13) c8 (by decide)), if_neg (i_sw_x (v := 16) (w := 14) c8 (by decide)), if_neg (i_sw_x (v := 16) (w := 15) c8 (by decide)), if_pos (i_sw (v := 16) c8)] at ho
      exact h7018_J94 x0 x1 x2  s6 I6 _ _ hP6 hF6 ho
    · rw [if_neg (i_sw_x (v := 17) (w := 12) c8 (by decide)), if_neg (i_sw_x (v := 17) (w := 13) c8 (by decide)), if_neg (i_sw_x (v := 17) (w := 14) c8 (by decide)), if_neg (i_sw_x (v := 17) (w := 15) c8 (by decide)), if_neg (i_sw_x (v := 17) (w := 16) c8 (by decide)), if_pos (i_sw (v := 17) c8)] at ho
      refine us_iload_n hR dX6_two_129 rfl ?_
      refine us_iload_n hR dX6_two_130 rfl ?_
      refine us_icmp_ge hR dX6_two_131 138 (by decide) (fun c13 => ?_) (fun c13 => ?_)
      · rw [if_pos c13] at ho
        refine us_iconstC hR dX6_two_138 (c := 0) (by decide) ?_
        refine us_iret hR dX6_two_139 rfl rfl ?_
        subst ho
        exact h2 _ hP6 hF6
      · rw [if_neg c13] at ho
        refine us_iconstC hR dX6_two_134 (c := 1) (by decide) ?_
        refine us_goto hR dX6_two_135 139 (by decide) ?_
        refine us_iret hR dX6_two_139 rfl rfl ?_
        subst ho
        exact h2 _ hP6 hF6
    · rw [if_neg (i_sw_x (v := 18) (w := 12) c8 (by decide)), if_neg (i_sw_x (v := 18) (w := 13) c8 (by decide)), if_neg (i_sw_x (v := 18) (w := 14) c8 (by decide)), if_neg (i_sw_x (v := 18) (w := 15) c8 (by decide)), if_neg (i_sw_x (v := 18) (w := 16) c8 (by decide)), if_neg (i_sw_x (v := 18) (w := 17) c8 (by decide)), if_pos (i_sw (v := 18) c8)] at ho
      refine us_iload_n hR dX6_two_140 rfl ?_
      refine us_iload_n hR dX6_two_141 rfl ?_
      refine us_icmp_gt hR dX6_two_142 149 (by decide) (fun c14 => ?_) (fun c14 => ?_)
      · rw [if_pos c14] at ho
        refine us_iconstC hR dX6_two_149 (c := 0) (by decide) ?_
        refine us_iret hR dX6_two_150 rfl rfl ?_
        subst ho
        exact h2 _ hP6 hF6
      · rw [if_neg c14] at ho
        refine us_iconstC hR dX6_two_145 (c := 1) (by decide) ?_
        refine us_goto hR dX6_two_146 150 (by decide) ?_
        refine us_iret hR dX6_two_150 rfl rfl ?_
        subst ho
        exact h2 _ hP6 hF6
    · rw [if_neg (i_sw_x (v := 19) (w := 12) c8 (by decide)), if_neg (i_sw_x (v := 19) (w := 13) c8 (by decide)), if_neg (i_sw_x (v := 19) (w := 14) c8 (by decide)), if_neg (i_sw_x (v := 19) (w := 15) c8 (by decide)), if_neg (i_sw_x (v := 19) (w := 16) c8 (by decide)), if_neg (i_sw_x (v := 19) (w := 17) c8 (by decide)), if_neg (i_sw_x (v := 19) (w := 18) c8 (by decide)), if_pos (i_sw (v := 19) c8)] at ho
      refine us_iload_n hR dX6_two_151 rfl ?_
      refine us_iload_n hR dX6_two_152 rfl ?_
      refine us_icmp_le hR dX6_two_153 160 (by decide) (fun c15 => ?_) (fun c15 => ?_)
      · rw [if_pos c15] at ho
        refine us_iconstC hR dX6_two_160 (c := 0) (by decide) ?_
        refine us_iret hR dX6_two_161 rfl rfl ?_
        subst ho
        exact h2 _ hP6 hF6
      · rw [if_neg c15] at ho
        refine us_iconstC hR dX6_two_156 (c := 1) (by decide) ?_
        refine us_goto hR dX6_two_157 161 (by decide) ?_
        refine us_iret hR dX6_two_161 rfl rfl ?_
        subst ho
        exact h2 _ hP6 hF6
    · rw [if_neg (i_sw_x (v := 20) (w := 12) c8 (by decide)), if_neg (i_sw_x (v := 20) (w := 13) c8 (by decide)), if_neg (i_sw_x (v := 20) (w := 14) c8 (by decide)), if_neg (i_sw_x (v := 20) (w := 15) c8 (by decide)), if_neg (i_sw_x (v := 20) (w := 16) c8 (by decide)), if_neg (i_sw_x (v := 20) (w := 17) c8 (by decide)), if_neg (i_sw_x (v := 20) (w := 18) c8 (by decide)), if_neg (i_sw_x (v := 20) (w := 19) c8 (by decide)), if_pos (i_sw (v := 20) c8)] at ho
      refine us_iload_n hR dX6_two_162 rfl ?_
      refine us_iload_n hR dX6_two_163 rfl ?_
      refine us_icmp_lt hR dX6_two_164 171 (by decide) (fun c16 => ?_) (fun c16 => ?_)
      · rw [if_pos c16] at ho
        refine us_iconstC hR dX6_two_171 (c := 0) (by decide) ?_
        refine us_iret hR dX6_two_172 rfl rfl ?_
        subst ho
        exact h2 _ hP6 hF6
      · rw [if_neg c16] at ho
        refine us_iconstC hR dX6_two_167 (c := 1) (by decide) ?_
        refine us_goto hR dX6_two_168 172 (by decide) ?_
        refine us_iret hR dX6_two_172 rfl rfl ?_
        subst ho
        exact h2 _ hP6 hF6
    · rw [if_neg (i_sw_x (v := 21) (w := 12) c8 (by decide)), if_neg (i_sw_x (v := 21) (w := 13) c8 (by decide)), if_neg (i_sw_x (v := 21) (w := 14) c8 (by decide)), if_neg (i_sw_x (v := 21) (w := 15) c8 (by decide)), if_neg (i_sw_x (v := 21) (w := 16) c8 (by decide)), if_neg (i_sw_x (v := 21) (w := 17) c8 (by decide)), if_neg (i_sw_x (v := 21) (w := 18) c8 (by decide)), if_neg (i_sw_x (v := 21) (w := 19) c8 (by decide)), if_neg (i_sw_x (v := 21) (w := 20) c8 (by decide)), if_pos (i_sw (v := 21) c8)] at ho
      refine us_iload_n hR dX6_two_173 rfl ?_
      refine us_iload_n hR dX6_two_174 rfl ?_
      refine us_icmp_ne hR dX6_two_175 182 (by decide) (fun c17 => ?_) (fun c17 => ?_)
      · rw [if_neg c17] at ho
        refine us_iconstC hR dX6_two_182 (c := 0) (by decide) ?_
        refine us_iret hR dX6_two_183 rfl rfl ?_
        subst ho
        exact h2 _ hP6 hF6
      · rw [if_pos c17] at ho
        refine us_iconstC hR dX6_two_178 (c := 1) (by decide) ?_
        refine us_goto hR dX6_two_179 183 (by decide) ?_
        refine us_iret hR dX6_two_183 rfl rfl ?_
        subst ho
        exact h2 _ hP6 hF6
  · rw [if_pos c7] at ho
    refine us_iconstC hR dX6_two_7 (c := 0) (by decide) ?_
    refine us_iret hR dX6_two_8 rfl rfl ?_
    subst ho
    exact h2 _ hP6 hF6
def f_9002  (s : Sx) : Int32 :=
  ((nI (s.1 0).length) - 1)
theorem sp_9002 {d : Nat} {G : ab_G} {ad : Nat → Nat} {I : Nat → Nat → Int32} {s : Sx} {P : ab_Pq} {X : ab_Xq} (hE : EV G ad) (hP : Rep I ad s)   (h : P (gW G I) (some (.int (f_9002 s)))) : ab_Gam (d + 2) 9002 [.ref (ad 1)] (gW G I) P X := by
  obtain ⟨o, ho⟩ : ∃ o, o = f_9002 s := ⟨_, rfl⟩
  rw [← ho] at h
  have h2 := h
  have hF : FrE ad I I := FrE_rfl
  unfold f_9002 at ho
  refine ab_enter (I := i9002) rfl (Nat.le_of_ble_eq_true rfl) (fun R hR => ?_)
  refine us_aload_n hR dX8_last_0 rfl ?_
  refine us_getR hR dX8_last_1 fR_9_14 (ev_k1 hE) rfl (ev_r_1_0 hE) ?_
  refine us_callV hR dX8_last_4 (y := 6001) (by decide +kernel) (by decide) (J := i6001) rfl rfl rfl rfl (ev_rk hE (by decide)) rfl (Nat.le_of_ble_eq_true rfl) (Nat.zero_le _) (Nat.zero_le _) ?_
  refine cR_size hE hP 0 (by decide) ?_
  refine us_iconstC hR dX8_last_7 (c := 1) (by decide) ?_
  refine us_isub hR dX8_last_8 ?_
  refine us_iret hR dX8_last_9 rfl rfl ?_
  subst ho
  exact h2
def f_9003 (x0 : Int32) (s : Sx) : Int32 :=
  if x0 = 12 then
    5
  else if x0 = 13 then
    5
  else if x0 = 14 then
    6
  else if x0 = 15 then
    6
  else if x0 = 16 then
    6
  else if x0 = 17 then
    4
  else if x0 = 18 then
    4
  else if x0 = 19 then
    4
  else if x0 = 20 then
    4
  else if x0 = 21 then
    3
  else if x0 = 22 then
    3
  else if x0 = 23 then
    2
  else if x0 = 24 then
    1
  else if x0 = 25 then
    7
  else if x0 = 26 then
    7
  else if x0 = 27 then
    0
  else if x0 = 28 then
    0
  else if x0 = 29 then
    0
  else if x0 = 30 then
    0
  else if x0 = 31 then
    0
  else if x0 = 32 then
    0
  else if x0 = 33 then
    0
  else if x0 = 34 then
    0
  else if x0 = 35 then
    0
  else if x0 = 36 then
    7
  else
    0
theorem sp_9003 {d : Nat} {G : ab_G} {ad : Nat → Nat} {I : Nat → Nat → Int32} {s : Sx} {P : ab_Pq} {X : ab_Xq} (hE : EV G ad) (hP : Rep I ad s) {x0 : Int32}  (h : P (gW G I) (some (.int (f_9003 x0 s)))) : ab_Gam (d + 1) 9003 [.int x0] (gW G I) P X := by
  obtain ⟨o, ho⟩ : ∃ o, o = f_9003 x0 s := ⟨_, rfl⟩
  rw [← ho] at h
  have h2 := h
  have hF : FrE ad I I := FrE_rfl
  unfold f_9003 at ho
  refine ab_enter (I := i9003) rfl (Nat.le_of_ble_eq_true rfl) (fun R hR => ?_)
  refine us_iload_n hR dX8_levelOf_0 rfl ?_
  refine us_tsw hR dX8_levelOf_1 (fun c1 => ⟨by decide, ?_⟩) (by decide) ⟨fun c1 => ⟨by decide, ?_⟩, fun c1 => ⟨by decide, ?_⟩, fun c1 => ⟨by decide, ?_⟩, fun c1 => ⟨by decide, ?_⟩, fun c1 => ⟨by decide, ?_⟩, fun c1 => ⟨by decide, ?_⟩, fun c1 => ⟨by decide, ?_⟩, fun c1 => ⟨by decide, ?_⟩, fun c1 => ⟨by decide, ?_⟩, fun c1 => ⟨by decide, ?_⟩, fun c1 => ⟨by decide, ?_⟩, fun c1 => ⟨by decide, ?_⟩, fun c1 => ⟨by decide, ?_⟩, fun c1 => ⟨by decide, ?_⟩, fun c1 => ⟨by decide, ?_⟩, fun c1 => ⟨by decide, ?_⟩, fun c1 => ⟨by decide, ?_⟩, fun c1 => ⟨by decide, ?_⟩, fun c1 => ⟨by decide, ?_⟩, fun c1 => ⟨by decide, ?_⟩, fun c1 => ⟨by decide, ?_⟩, fun c1 => ⟨by decide, ?_⟩, fun c1 => ⟨by decide, ?_⟩, fun c1 => ⟨by decide, ?_⟩, fun c1 => ⟨by decide, ?_⟩, trivial⟩
  · rw [if_neg (i_sw_d (v := 12) c1 (by decide)), if_neg (i_sw_d (v := 13) c1 (by decide)), if_neg (i_sw_d (v := 14) c1 (by decide)), if_neg (i_sw_d (v := 15) c1 (by decide)), if_neg (i_sw_d (v := 16) c1 (by decide)), if_neg (i_sw_d (v := 17) c1 (by decide)), if_neg (i_sw_d (v := 18) c1 (by decide)), if_neg (i_sw_d (v := 19) c1 (by decide)), if_neg (i_sw_d (v := 20) c1 (by decide)), if_neg (i_sw_d (v := 21) c1 (by decide)), if_neg (i_sw_d (v := 22) c1 (by decide)), if_neg (i_sw_d (v := 23) c1 (by decide)), if_neg (i_sw_d (v := 24) c1 (by decide)), if_neg (i_sw_d (v := 25) c1 (by decide)), if_neg (i_sw_d (v := 26) c1 (by decide)), if_neg (i_sw_d (v := 27) c1 (by decide)), if_neg (i_sw_d (v := 28) c1 (by decide)), if_neg (i_sw_d (v := 29) c1 (by decide)), if_neg (i_sw_d (v := 30) c1 (by decide)), if_neg (i_sw_d (v := 31) c1 (by decide)), if_neg (i_sw_d (v := 32) c1 (by decide)), if_neg (i_sw_d (v := 33) c1 (by decide)), if_neg (i_sw_d (v := 34) c1 (by decide)), if_neg (i_sw_d (v := 35) c1 (by decide)), if_neg (i_sw_d (v := 36) c1 (by decide))] at ho
    refine us_iconstC hR dX8_levelOf_132 (c := 0) (by decide) ?_
    refine us_iret hR dX8_levelOf_133 rfl rfl ?_
    subst ho
    exact h2
  · rw [if_pos (i_sw (v := 12) c1)] at ho
    refine us_iconstC hR dX8_levelOf_124 (c := 5) (by decide) ?_
    refine us_iret hR dX8_levelOf_125 rfl rfl ?_
    subst ho
    exact h2
  · rw [if_neg (i_sw_x (v := 13) (w := 12) c1 (by decide)), if_pos (i_sw (v := 13) c1)] at ho
    refine us_iconstC hR dX8_levelOf_124 (c := 5) (by decide) ?_
    refine us_iret hR dX8_levelOf_125 rfl rfl ?_
    subst ho
    exact h2
  · rw [if_neg (i_sw_x (v := 14) (w := 12) c1 (by decide)), if_neg (i_sw_x (v := 14) (w := 13) c1 (by decide)), if_pos (i_sw (v := 14) c1)] at ho
    refine us_bipushC hR dX8_levelOf_126 (c := 6) (by decide) ?_
    refine us_iret hR dX8_levelOf_128 rfl rfl ?_
    subst ho
    exact h2
  · rw [if_neg (i_sw_x (v := 15) (w := 12) c1 (by decide)), if_neg (i_sw_x (v := 15) (w := 13) c1 (by decide)), if_neg (i_sw_x (v := 15) (w := 14) c1 (by decide)), if_pos (i_sw (v := 15) c1)] at ho
    refine us_bipushC hR dX8_levelOf_126 (c := 6) (by decide) ?_
    refine us_iret hR dX8_levelOf_128 rfl rfl ?_
    subst ho
    exact h2
  · rw [if_neg (i_sw_x (v := 16) (w := 12) c1 (by decide)), if_neg (i_sw_x (v := 16) (w := 13) c1 (by decide)), if_neg (i_sw_x (v := 16) (w := 14) c1 (by decide)), if_neg (i_sw_x (v := 16) (w := 15) c1 (by decide)), if_pos (i_sw (v := 16) c1)] at ho
    refine us_bipushC hR dX8_levelOf_126 (c := 6) (by decide) ?_
    refine us_iret hR dX8_levelOf_128 rfl rfl ?_
    subst ho
    exact h2
  · rw [if_neg (i_sw_x (v := 17) (w := 12) c1 (by decide)), if_neg (i_sw_x (v := 17) (w := 13) c1 (by decide)), if_neg (i_sw_x (v := 17) (w := 14) c1 (by decide)), if_neg (i_sw_x (v := 17) (w := 15) c1 (by decide)), if_neg (i_sw_x (v := 17) (w := 16) c1 (by decide)), if_pos (i_sw (v := 17) c1)] at ho
    refine us_iconstC hR dX8_levelOf_122 (c := 4) (by decide) ?_
    refine us_iret hR dX8_levelOf_123 rfl rfl ?_
    subst ho
    exact h2
  · rw [if_neg (i_sw_x (v := 18) (w := 12) c1 (by decide)), if_neg (i_sw_x (v := 18) (w := 13) c1 (by decide)), if_neg (i_sw_x (v := 18) (w := 14) c1 (by decide)), if_neg (i_sw_x (v := 18) (w := 15) c1 (by decide)), if_neg (i_sw_x (v := 18) (w := 16) c1 (by decide)), if_neg (i_sw_x (v := 18) (w := 17) c1 (by decide)), if_pos (i_sw (v := 18) c1)] at ho
    refine us_iconstC hR dX8_levelOf_122 (c := 4) (by decide) ?_
    refine us_iret hR dX8_levelOf_123 rfl rfl ?_
    subst ho
    exact h2
  · rw [if_neg (i_sw_x (v := 19) (w := 12) c1 (by decide)), if_neg (i_sw_x (v := 19) (w := 13) c1 (by decide)), if_neg (i_sw_x (v := 19) (w := 14) c1 (by decide)), if_neg (i_sw_x (v := 19) (w := 15) c1 (by decide)), if_neg (i_sw_x (v := 19) (w := 16) c1 (by decide)), if_neg (i_sw_x (v := 19) (w := 17) c1 (by decide)), if_neg (i_sw_x (v := 19) (w := 18) c1 (by decide)), if_pos (i_sw (v := 19) c1)] at ho
    refine us_iconstC hR dX8_levelOf_122 (c := 4) (by decide) ?_
    refine us_iret hR dX8_levelOf_123 rfl rfl ?_
    subst ho
    exact h2
  · rw [if_neg (i_sw_x (v := 20) (w := 12) c1 (by decide)), if_neg (i_sw_x (v := 20) (w := 13) c1 (by decide)), if_neg (i_sw_x (v := 20) (w := 14) c1 (by decide)), if_neg (i_sw_x (v := 20) (w := 15) c1 (by decide)), if_neg (i_sw_x (v := 20) (w := 16) c1 (by decide)), if_neg (i_sw_x (v := 20) (w := 17) c1 (by decide)), if_neg (i_sw_x (v := 20) (w := 18) c1 (by decide)), if_neg (i_sw_x (v := 20) (w := 19) c1 (by decide)), if_pos (i_sw (v := 20) c1)] at ho
    refine us_iconstC hR dX8_levelOf_122 (c := 4) (by decide) ?_
    refine us_iret hR dX8_levelOf_123 rfl rfl ?_
    subst ho
    exact h2
  · rw [if_neg (i_sw_x (v := 21) (w := 12) c1 (by decide)), if_neg (i_sw_x (v := 21) (w := 13) c1 (by decide)), if_neg (i_sw_x (v := 21) (w := 14) c1 (by decide)), if_neg (i_sw_x (v := 21) (w := 15) c1 (by decide)), if_neg (i_sw_x (v := 21) (w := 16) c1 (by decide)), if_neg (i_sw_x (v := 21) (w := 17) c1 (by decide)), if_neg (i_sw_x (v := 21) (w := 18) c1 (by decide)), if_neg (i_sw_x (v := 21) (w := 19) c1 (by decide)), if_neg (i_sw_x (v := 21) (w := 20) c1 (by decide)), if_pos (i_sw (v := 21) c1)] at ho
    refine us_iconstC hR dX8_levelOf_120 (c := 3) (by decide) ?_
    refine us_iret hR dX8_levelOf_121 rfl rfl ?_
    subst ho
    exact h2
  · rw [if_neg (i_sw_x (v := 22) (w := 12) c1 (by decide)), if_neg (i_sw_x (v := 22) (w := 13) c1 (by decide)), if_neg (i_sw_x (v := 22) (w := 14) c1 (by decide)), if_neg (i_sw_x (v := 22) (w := 15) c1 (by decide)), if_neg (i_sw_x (v := 22) (w := 16) c1 (by decide)), if_neg (i_sw_x (v := 22) (w := 17) c1 (by decide)), if_neg (i_sw_x (v := 22) (w := 18) c1 (by decide)), if_neg (i_sw_x (v := 22) (w := 19) c1 (by decide)), if_neg (i_sw_x (v := 22) (w := 20) c1 (by decide)), if_neg (i_sw_x (v := 22) (w := 21) c1 (by decide)), if_pos (i_sw (v := 22) c1)] at ho
    refine us_iconstC hR dX8_levelOf_120 (c := 3) (by decide) ?_
    refine us_iret hR dX8_levelOf_121 rfl rfl ?_
    subst ho
    exact h2
  · rw [if_neg (i_sw_x (v := 23) (w := 12) c1 (by decide)), if_neg (i_sw_x (v := 23) (w := 13) c1 (by decide)), if_neg (i_sw_x (v := 23) (w := 14) c1 (by decide)), if_neg (i_sw_x (v := 23) (w := 15) c1 (by decide)), if_neg (i_sw_x (v := 23) (w := 16) c1 (by decide)), if_neg (i_sw_x (v := 23) (w := 17) c1 (by decide)), if_neg (i_sw_x (v := 23) (w := 18) c1 (by decide)), if_neg (i_sw_x (v := 23) (w := 19) c1 (by decide)), if_neg (i_sw_x (v := 23) (w := 20) c1 (by decide)), if_neg (i_sw_x (v := 23) (w := 21) c1 (by decide)), if_neg (i_sw_x (v := 23) (w := 22) c1 (by decide)), if_pos (i_sw (v := 23) c1)] at ho
    refine us_iconstC hR dX8_levelOf_118 (c := 2) (by decide) ?_
    refine us_iret hR dX8_levelOf_119 rfl rfl ?_
    subst ho
    exact h2
  · rw [if_neg (i_sw_x (v := 24) (w := 12) c1 (by decide)), if_neg (i_sw_x (v := 24) (w := 13) c1 (by decide)), if_neg (i_sw_x (v := 24) (w := 14) c1 (by decide)), if_neg (i_sw_x (v := 24) (w := 15) c1 (by decide)), if_neg (i_sw_x (v := 24) (w := 16) c1 (by decide)), if_neg (i_sw_x (v := 24) (w := 17) c1 (by decide)), if_neg (i_sw_x (v := 24) (w := 18) c1 (by decide)), if_neg (i_sw_x (v := 24) (w := 19) c1 (by decide)), if_neg (i_sw_x (v := 24) (w := 20) c1 (by decide)), if_neg (i_sw_x (v := 24) (w := 21) c1 (by decide)), if_neg (i_sw_x (v := 24) (w := 22) c1 (by decide)), if_neg (i_sw_x (v := 24) (w := 23) c1 (by decide)), if_pos (i_sw (v := 24) c1)] at ho
    refine us_iconstC hR dX8_levelOf_116 (c := 1) (by decide) ?_
    refine us_iret hR dX8_levelOf_117 rfl rfl ?_
    subst ho
    exact h2
  · rw [if_neg (i_sw_x (v := 25) (w := 12) c1 (by decide)), if_neg (i_sw_x (v := 25) (w := 13) c1 (by decide)), if_neg (i_sw_x (v := 25) (w := 14) c1 (by decide)), if_neg (i_sw_x (v := 25) (w := 15) c1 (by decide)), if_neg (i_sw_x (v := 25) (w := 16) c1 (by decide)), if_neg (i_sw_x (v := 25) (w := 17) c1 (by decide)), if_neg (i_sw_x (v := 25) (w := 18) c1 (by decide)), if_neg (i_sw_x (v := 25) (w := 19) c1 (by decide)), if_neg (i_sw_x (v := 25) (w := 20) c1 (by decide)), if_neg (i_sw_x (v := 25) (w := 21) c1 (by decide)), if_neg (i_sw_x (v := 25) (w := 22) c1 (by decide)), if_neg (i_sw_x (v := 25) (w := 23) c1 (by decide)), if_neg (i_sw_x (v := 25) (w := 24) c1 (by decide)), if_pos (i_sw (v := 25) c1)] at ho
    refine us_bipushC hR dX8_levelOf_129 (c := 7) (by decide) ?_
    refine us_iret hR dX8_levelOf_131 rfl rfl ?_
    subst ho
    exact h2
  · rw [if_neg (i_sw_x (v := 26) (w := 12) c1 (by decide)), if_neg (i_sw_x (v := 26) (w := 13) c1 (by decide)), if_neg (i_sw_x (v := 26) (w := 14) c1 (by decide)), if_neg (i_sw_x (v := 26) (w := 15) c1 (by decide)), if_neg (i_sw_x (v := 26) (w := 16) c1 (by decide)), if_neg (i_sw_x (v := 26) (w := 17) c1 (by decide)), if_neg (i_sw_x (v := 26) (w := 18) c1 (by decide)), if_neg (i_sw_x (v := 26) (w := 19) c1 (by decide)), if_neg (i_sw_x (v := 26) (w := 20) c1 (by decide)), if_neg (i_sw_x (v := 26) (w := 21) c1 (by decide)), if_neg (i_sw_x (v := 26) (w := 22) c1 (by decide)), if_neg (i_sw_x (v := 26) (w := 23) c1 (by decide)), if_neg (i_sw_x (v := 26) (w := 24) c1 (by decide)), if_neg (i_sw_x (v := 26) (w := 25) c1 (by decide)), if_pos (i_sw (v := 26) c1)] at ho
    refine us_bipushC hR dX8_levelOf_129 (c := 7) (by decide) ?_
    refine us_iret hR dX8_levelOf_131 rfl rfl ?_
    subst ho
    exact h2
  · rw [if_neg (i_sw_x (v := 27) (w := 12) c1 (by decide)), if_neg (i_sw_x (v := 27) (w := 13) c1 (by decide)), if_neg (i_sw_x (v := 27) (w := 14) c1 (by decide)), if_neg (i_sw_x (v := 27) (w := 15) c1 (by decide)), if_neg (i_sw_x (v := 27) (w := 16) c1 (by decide)), if_neg (i_sw_x (v := 27) (w := 17) c1 (by decide)), if_neg (i_sw_x (v := 27) (w := 18) c1 (by decide)), if_neg (i_sw_x (v := 27) (w := 19) c1 (by decide)), if_neg (i_sw_x (v := 27) (w := 20) c1 (by decide)), if_neg (i_sw_x (v := 27) (w := 21) c1 (by decide)), if_neg (i_sw_x (v := 27) (w := 22) c1 (by decide)), if_neg (i_sw_x (v := 27) (w := 23) c1 (by decide)), if_neg (i_sw_x (v := 27) (w := 24) c1 (by decide)), if_neg (i_sw_x (v := 27) (w := 25) c1 (by decide)), if_neg (i_sw_x (v := 27) (w := 26) c1 (by decide)), if_pos (i_sw (v := 27) c1)] at ho
    refine us_iconstC hR dX8_levelOf_132 (c := 0) (by decide) ?_
    refine us_iret hR dX8_levelOf_133 rfl rfl ?_
    subst ho
    exact h2
  · rw [if_neg (i_sw_x (v := 28) (w := 12) c1 (by decide)), if_neg (i_sw_x (v := 28) (w := 13) c1 (by decide)), if_neg (i_sw_x (v := 28) (w := 14) c1 (by decide)), if_neg (i_sw_x (v := 28) (w := 15) c1 (by decide)), if_neg (i_sw_x (v := 28) (w := 16) c1 (by decide)), if_neg (i_sw_x (v := 28) (w := 17) c1 (by decide)), if_neg (i_sw_x (v := 28) (w := 18) c1 (by decide)), if_neg (i_sw_x (v := 28) (w := 19) c1 (by decide)), if_neg (i_sw_x (v := 28) (w := 20) c1 (by decide)), if_neg (i_sw_x (v := 28) (w := 21) c1 (by decide)), if_neg (i_sw_x (v := 28) (w := 22) c1 (by decide)), if_neg (i_sw_x (v := 28) (w := 23) c1 (by decide)), if_neg (i_sw_x (v := 28) (w := 24) c1 (by decide)), if_neg (i_sw_x (v := 28) (w := 25) c1 (by decide)), if_neg (i_sw_x (v := 28) (w := 26) c1 (by decide)), if_neg (i_sw_x (v := 28) (w := 27) c1 (by decide)), if_pos (i_sw (v := 28) c1)] at ho
    refine us_iconstC hR dX8_levelOf_132 (c := 0) (by decide) ?_
    refine us_iret hR dX8_levelOf_133 rfl rfl ?_
    subst ho
    exact h2
  · rw [if_neg (i_sw_x (v := 29) (w := 12) c1 (by decide)), if_neg (i_sw_x (v := 29) (w := 13) c1 (by decide)), if_neg (i_sw_x (v := 29) (w := 14) c1 (by decide)), if_neg (i_sw_x (v := 29) (w := 15) c1 (by decide)), if_neg (i_sw_x (v := 29) (w := 16) c1 (by decide)), if_neg (i_sw_x (v := 29) (w := 17) c1 (by decide)), if_neg (i_sw_x (v := 29) (w := 18) c1 (by decide)), if_neg (i_sw_x (v := 29) (w := 19) c1 (by decide)), if_neg (i_sw_x (v := 29) (w := 20) c1 (by decide)), if_neg (i_sw_x (v := 29) (w := 21) c1 (by decide)), if_neg (i_sw_x (v := 29) (w := 22) c1 (by decide)), if_neg (i_sw_x (v := 29) (w := 23) c1 (by decide)), if_neg (i_sw_x (v := 29) (w := 24) c1 (by decide)), if_neg (i_sw_x (v := 29) (w := 25) c1 (by decide)), if_neg (i_sw_x (v := 29) (w := 26) c1 (by decide)), if_neg (i_sw_x (v := 29) (w := 27) c1 (by decide)), if_neg (i_sw_x (v := 29) (w := 28) c1 (by decide)), if_pos (i_sw (v := 29) c1)] at ho
    refine us_iconstC hR dX8_levelOf_132 (c := 0) (by decide) ?_
    refine us_iret hR dX8_levelOf_133 rfl rfl ?_
    subst ho
    exact h2
  · rw [if_neg (i_sw_x (v := 30) (w := 12) c1 (by decide)), if_neg (i_sw_x (v := 30) (w := 13) c1 (by decide)), if_neg (i_sw_x (v := 30) (w := 14) c1 (by decide)), if_neg (i_sw_x (v := 30) (w := 15) c1 (by decide)), if_neg (i_sw_x (v := 30) (w := 16) c1 (by decide)), if_neg (i_sw_x (v := 30) (w := 17) c1 (by decide)), if_neg (i_sw_x (v := 30) (w := 18) c1 (by decide)), if_neg (i_sw_x (v := 30) (w := 19) c1 (by decide)), if_neg (i_sw_x (v := 30) (w := 20) c1 (by decide)), if_neg (i_sw_x (v := 30) (w := 21) c1 (by decide)), if_neg (i_sw_x (v := 30) (w := 22) c1 (by decide)), if_neg (i_sw_x (v := 30) (w := 23) c1 (by decide)), if_neg (i_sw_x (v := 30) (w := 24) c1 (by decide)), if_neg (i_sw_x (v := 30) (w := 25) c1 (by decide)), if_neg (i_sw_x (v := 30) (w := 26) c1 (by decide)), if_neg (i_sw_x (v := 30) (w := 27) c1 (by decide)), if_neg (i_sw_x (v := 30) (w := 28) c1 (by decide)), if_neg (i_sw_x (v := 30) (w := 29) c1 (by decide)), if_pos (i_sw (v := 30) c1)] at ho
    refine us_iconstC hR dX8_levelOf_132 (c := 0) (by decide) ?_
    refine us_iret hR dX8_levelOf_133 rfl rfl ?_
    subst ho
    exact h2
  · rw [if_neg (i_sw_x (v := 31) (w := 12) c1 (by decide)), if_neg (i_sw_x (v := 31) (w := 13) c1 (by decide)), if_neg (i_sw_x (v := 31) (w := 14) c1 (by decide)), if_neg (i_sw_x (v := 31) (w := 15) c1 (by decide)), if_neg (i_sw_x (v := 31) (w := 16) c1 (by decide)), if_neg (i_sw_x (v := 31) (w := 17) c1 (by decide)), if_neg (i_sw_x (v := 31) (w := 18) c1 (by decide)), if_neg (i_sw_x (v := 31) (w := 19) c1 (by decide)), if_neg (i_sw_x (v := 31) (w := 20) c1 (by decide)), if_neg (i_sw_x (v := 31) (w := 21) c1 (by decide)), if_neg (i_sw_x (v := 31) (w := 22) c1 (by decide)), if_neg (i_sw_x (v := 31) (w := 23) c1 (by decide)), if_neg (i_sw_x (v := 31) (w := 24) c1 (by decide)), if_neg (i_sw_x (v := 31) (w := 25) c1 (by decide)), if_neg (i_sw_x (v := 31) (w := 26) c1 (by decide)), if_neg (i_sw_x (v := 31) (w := 27) c1 (by decide)), if_neg (i_sw_x (v := 31) (w := 28) c1 (by decide)), if_neg (i_sw_x (v := 31) (w := 29) c1 (by decide)), if_neg (i_sw_x (v := 31) (w := 30) c1 (by decide)), if_pos (i_sw (v := 31) c1)] at ho
    refine us_iconstC hR dX8_levelOf_132 (c := 0) (by decide) ?_
    refine us_iret hR dX8_levelOf_133 rfl rfl ?_
    subst ho
    exact h2
  · rw [if_neg (i_sw_x (v := 32) (w := 12) c1 (by decide)), if_neg (i_sw_x (v := 32) (w := 13) c1 (by decide)), if_neg (i_sw_x (v := 32) (w := 14) c1 (by decide)), if_neg (i_sw_x (v := 32) (w := 15) c1 (by decide)), if_neg (i_sw_x (v := 32) (w := 16) c1 (by decide)), if_neg (i_sw_x (v := 32) (w := 17) c1 (by decide)), if_neg (i_sw_x (v := 32) (w := 18) c1 (by decide)), if_neg (i_sw_x (v := 32) (w := 19) c1 (by decide)), if_neg (i_sw_x (v := 32) (w := 20) c1 (by decide)), if_neg (i_sw_x (v := 32) (w := 21) c1 (by decide)), if_neg (i_sw_x (v := 32) (w := 22) c1 (by decide)), if_neg (i_sw_x (v := 32) (w := 23) c1 (by decide)), if_neg (i_sw_x (v := 32) (w := 24) c1 (by decide)), if_neg (i_sw_x (v := 32) (w := 25) c1 (by decide)), if_neg (i_sw_x (v := 32) (w := 26) c1 (by decide)), if_neg (i_sw_x (v := 32) (w := 27) c1 (by decide)), if_neg (i_sw_x (v := 32) (w := 28) c1 (by decide)), if_neg (i_sw_x (v := 32) (w := 29) c1 (by decide)), if_neg (i_sw_x (v := 32) (w := 30) c1 (by decide)), if_neg (i_sw_x (v := 32) (w := 31) c1 (by decide)), if_pos (i_sw (v := 32) c1)] at ho
    refine us_iconstC hR dX8_levelOf_132 (c := 0) (by decide) ?_
    refine us_iret hR dX8_levelOf_133 rfl rfl ?_
    subst ho
    exact h2
  · rw [if_neg (i_sw_x (v := 33) (w := 12) c1 (by decide)), if_neg (i_sw_x (v := 33) (w := 13) c1 (by decide)), if_neg (i_sw_x (v := 33) (w := 14) c1 (by decide)), if_neg (i_sw_x (v := 33) (w := 15) c1 (by decide)), if_neg (i_sw_x (v := 33) (w := 16) c1 (by decide)), if_neg (i_sw_x (v := 33) (w := 17) c1 (by decide)), if_neg (i_sw_x (v := 33) (w := 18) c1 (by decide)), if_neg (i_sw_x (v := 33) (w := 19) c1 (by decide)), if_neg (i_sw_x (v := 33) (w := 20) c1 (by decide)), if_neg (i_sw_x (v := 33) (w := 21) c1 (by decide)), if_neg (i_sw_x (v := 33) (w := 22) c1 (by decide)), if_neg (i_sw_x (v := 33) (w := 23) c1 (by decide)), if_neg (i_sw_x (v := 33) (w := 24) c1 (by decide)), if_neg (i_sw_x (v := 33) (w := 25) c1 (by decide)), if_neg (i_sw_x (v := 33) (w := 26) c1 (by decide)), if_neg (i_sw_x (v := 33) (w := 27) c1 (by decide)), if_neg (i_sw_x (v := 33) (w := 28) c1 (by decide)), if_neg (i_sw_x (v := 33) (w := 29) c1 (by decide)), if_neg (i_sw_x (v := 33) (w := 30) c1 (by decide)), if_neg (i_sw_x (v := 33) (w := 31) c1 (by decide)), if_neg (i_sw_x (v := 33) (w := 32) c1 (by decide)), if_pos (i_sw (v := 33) c1)] at ho
    refine us_iconstC hR dX8_levelOf_132 (c := 0) (by decide) ?_
    refine us_iret hR dX8_levelOf_133 rfl rfl ?_
    subst ho
    exact h2
  · rw [if_neg (i_sw_x (v := 34) (w := 12) c1 (by decide)), if_neg (i_sw_x (v := 34) (w := 13) c1 (by decide)), if_neg (i_sw_x (v := 34) (w := 14) c1 (by decide)), if_neg (i_sw_x (v := 34) (w := 15) c1 (by decide)), if_neg (i_sw_x (v := 34) (w := 16) c1 (by decide)), if_neg (i_sw_x (v := 34) (w := 17) c1 (by decide)), if_neg (i_sw_x (v := 34) (w := 18) c1 (by decide)), if_neg (i_sw_x (v := 34) (w := 19) c1 (by decide)), if_neg (i_sw_x (v := 34) (w := 20) c1 (by decide)), if_neg (i_sw_x (v := 34) (w := 21) c1 (by decide)), if_neg (i_sw_x (v := 34) (w := 22) c1 (by decide)), if_neg (i_sw_x (v := 34) (w := 23) c1 (by decide)), if_neg (i_sw_x (v := 34) (w := 24) c1 (by decide)), if_neg (i_sw_x (v := 34) (w := 25) c1 (by decide)), if_neg (i_sw_x (v := 34) (w := 26) c1 (by decide)), if_neg (i_sw_x (v := 34) (w := 27) c1 (by decide)), if_neg (i_sw_x (v := 34) (w := 28) c1 (by decide)), if_neg (i_sw_x (v := 34) (w := 29) c1 (by decide)), if_neg (i_sw_x (v := 34) (w := 30) c1 (by decide)), if_neg (i_sw_x (v := 34) (w := 31) c1 (by decide)), if_neg (i_sw_x (v := 34) (w := 32) c1 (by decide)), if_neg (i_sw_x (v := 34) (w := 33) c1 (by decide)), if_pos (i_sw (v := 34) c1)] at ho
    refine us_iconstC hR dX8_levelOf_132 (c := 0) (by decide) ?_
    refine us_iret hR dX8_levelOf_133 rfl rfl ?_
    subst ho
    exact h2
  · rw [if_neg (i_sw_x (v := 35) (w := 12) c1 (by decide)), if_neg (i_sw_x (v := 35) (w := 13) c1 (by decide)), if_neg (i_sw_x (v := 35) (w := 14) c1 (by decide)), if_neg (i_sw_x (v := 35) (w := 15) c1 (by decide)), if_neg (i_sw_x (v := 35) (w := 16) c1 (by decide)), if_neg (i_sw_x (v := 35) (w := 17) c1 (by decide)), if_neg (i_sw_x (v := 35) (w := 18) c1 (by decide)), if_neg (i_sw_x (v := 35) (w := 19) c1 (by decide)), if_neg (i_sw_x (v := 35) (w := 20) c1 (by decide)), if_neg (i_sw_x (v := 35) (w := 21) c1 (by decide)), if_neg (i_sw_x (v := 35) (w := 22) c1 (by decide)), if_neg (i_sw_x (v := 35) (w := 23) c1 (by decide)), if_neg (i_sw_x (v := 35) (w := 24) c1 (by decide)), if_neg (i_sw_x (v := 35) (w := 25) c1 (by decide)), if_neg (i_sw_x (v := 35) (w := 26) c1 (by decide)), if_neg (i_sw_x (v := 35) (w := 27) c1 (by decide)), if_neg (i_sw_x (v := 35) (w := 28) c1 (by decide)), if_neg (i_sw_x (v := 35) (w := 29) c1 (by decide)), if_neg (i_sw_x (v := 35) (w := 30) c1 (by decide)), if_neg (i_sw_x (v := 35) (w := 31) c1 (by decide)), if_neg (i_sw_x (v := 35) (w := 32) c1 (by decide)), if_neg (i_sw_x (v := 35) (w := 33) c1 (by decide)), if_neg (i_sw_x (v := 35) (w := 34) c1 (by decide)), if_pos (i_sw (v := 35) c1)] at ho
    refine us_iconstC hR dX8_levelOf_132 (c := 0) (by decide) ?_
    refine us_iret hR dX8_levelOf_133 rfl rfl ?_
    subst ho
    exact h2
  · rw [if_neg (i_sw_x (v := 36) (w := 12) c1 (by decide)), if_neg (i_sw_x (v := 36) (w := 13) c1 (by decide)), if_neg (i_sw_x (v := 36) (w := 14) c1 (by decide)), if_neg (i_sw_x (v := 36) (w := 15) c1 (by decide)), if_neg (i_sw_x (v := 36) (w := 16) c1 (by decide)), if_neg (i_sw_x (v := 36) (w := 17) c1 (by decide)), if_neg (i_sw_x (v := 36) (w := 18) c1 (by decide)), if_neg (i_sw_x (v := 36) (w := 19) c1 (by decide)), if_neg (i_sw_x (v := 36) (w := 20) c1 (by decide)), if_neg (i_sw_x (v := 36) (w := 21) c1 (by decide)), if_neg (i_sw_x (v := 36) (w := 22) c1 (by decide)), if_neg (i_sw_x (v := 36) (w := 23) c1 (by decide)), if_neg (i_sw_x (v := 36) (w := 24) c1 (by decide)), if_neg (i_sw_x (v := 36) (w := 25) c1 (by decide)), if_neg (i_sw_x (v := 36) (w := 26) c1 (by decide)), if_neg (i_sw_x (v := 36) (w := 27) c1 (by decide)), if_neg (i_sw_x (v := 36) (w := 28) c1 (by decide)), if_neg (i_sw_x (v := 36) (w := 29) c1 (by decide)), if_neg (i_sw_x (v := 36) (w := 30) c1 (by decide)), if_neg (i_sw_x (v := 36) (w := 31) c1 (by decide)), if_neg (i_sw_x (v := 36) (w := 32) c1 (by decide)), if_neg (i_sw_x (v := 36) (w := 33) c1 (by decide)), if_neg (i_sw_x (v := 36) (w := 34) c1 (by decide)), if_neg (i_sw_x (v := 36) (w := 35) c1 (by decide)), if_pos (i_sw (v := 36) c1)] at ho
    refine us_bipushC hR dX8_levelOf_129 (c := 7) (by decide) ?_
    refine us_iret hR dX8_levelOf_131 rfl rfl ?_
    subst ho
    exact h2
def f_9004 (x0 : Int32) (x1 : Int32) (x2 : Int32) (s : Sx) : Sx :=
  bS (sB s 0 (xadd (ev_cap 0) (s.1 0) x0)) fun s1 =>
  bS (sB s1 1 (xadd (ev_cap 1) (s1.1 1) x1)) fun s2 =>
  bS (sB s2 2 (xadd (ev_cap 2) (s2.1 2) x2)) fun s3 =>
  s3
theorem sp_9004 {d : Nat} {G : ab_G} {ad : Nat → Nat} {I : Nat → Nat → Int32} {s : Sx} {P : ab_Pq} {X : ab_Xq} (hE : EV G ad) (hP : Rep I ad s) {x0 : Int32} {x1 : Int32} {x2 : Int32}  (h : ∀ I1 o, o = f_9004 x0 x1 x2 s → Rep I1 ad o → FrE ad I I1 → P (gW G I1) none) : ab_Gam (d + 2) 9004 [.ref (ad 1), .int x0, .int x1, .int x2] (gW G I) P X := by
  obtain ⟨o, ho⟩ : ∃ o, o = f_9004 x0 x1 x2 s := ⟨_, rfl⟩
  have h2 := fun I1 => h I1 o ho
  have hF : FrE ad I I := FrE_rfl
  unfold f_9004 at ho
  refine ab_enter (I := i9004) rfl (Nat.le_of_ble_eq_true rfl) (fun R hR => ?_)
  refine us_aload_n hR dX8_add_0 rfl ?_
  refine us_getR hR dX8_add_1 fR_9_14 (ev_k1 hE) rfl (ev_r_1_0 hE) ?_
  refine us_iload_n hR dX8_add_4 rfl ?_
  refine us_callV hR dX8_add_5 (y := 6004) (by decide +kernel) (by decide) (J := i6004) rfl rfl rfl rfl (ev_rk hE (by decide)) rfl (Nat.le_of_ble_eq_true rfl) (Nat.zero_le _) (Nat.zero_le _) ?_
  refine cR_add hE hP 0 (by decide) (fun I1 s1 hs1 hP1 hF1 => ?_)
  rw [← hs1, bS_eq] at ho
  have hF1 := hF.tr hF1
  refine us_aload_n hR dX8_add_8 rfl ?_
  refine us_getR hR dX8_add_9 fR_9_20 (ev_k1 hE) rfl (ev_r_1_1 hE) ?_
  refine us_iload_n hR dX8_add_12 rfl ?_
  refine us_callV hR dX8_add_13 (y := 6004) (by decide +kernel) (by decide) (J := i6004) rfl rfl rfl rfl (ev_rk hE (by decide)) rfl (Nat.le_of_ble_eq_true rfl) (Nat.zero_le _) (Nat.zero_le _) ?_
  refine cR_add hE hP1 1 (by decide) (fun I2 s2 hs2 hP2 hF2 => ?_)
  rw [← hs2, bS_eq] at ho
  have hF2 := hF1.tr hF2
  refine us_aload_n hR dX8_add_16 rfl ?_
  refine us_getR hR dX8_add_17 fR_9_23 (ev_k1 hE) rfl (ev_r_1_2 hE) ?_
  refine us_iload_n hR dX8_add_20 rfl ?_
  refine us_callV hR dX8_add_21 (y := 6004) (by decide +kernel) (by decide) (J := i6004) rfl rfl rfl rfl (ev_rk hE (by decide)) rfl (Nat.le_of_ble_eq_true rfl) (Nat.zero_le _) (Nat.zero_le _) ?_
  refine cR_add hE hP2 2 (by decide) (fun I3 s3 hs3 hP3 hF3 => ?_)
  rw [← hs3, bS_eq] at ho
  have hF3 := hF2.tr hF3
  refine us_vret hR dX8_add_24 rfl ?_
  subst ho
  exact h2 _ hP3 hF3
def f_9012 (x0 : Int32) (x1 : Int32) (s : Sx) : Int32 :=
  if x1 = 61 then
    if x0 = 60 then
      18
    else
      if x0 = 62 then
        20
      else
        if x0 = 61 then
          21
        else
          if x0 = 33 then
            22
          else
            1
  else
    if x0 = x1 then
      if x0 = 38 then
        23
      else
        if x0 = 124 then
          24
        else
          1
    else
      1
theorem sp_9012 {d : Nat} {G : ab_G} {ad : Nat → Nat} {I : Nat → Nat → Int32} {s : Sx} {P : ab_Pq} {X : ab_Xq} (hE : EV G ad) (hP : Rep I ad s) {x0 : Int32} {x1 : Int32}  (h : P (gW G I) (some (.int (f_9012 x0 x1 s)))) : ab_Gam (d + 1) 9012 [.int x0, .int x1] (gW G I) P X := by
  obtain ⟨o, ho⟩ : ∃ o, o = f_9012 x0 x1 s := ⟨_, rfl⟩
  rw [← ho] at h
  have h2 := h
  have hF : FrE ad I I := FrE_rfl
  unfold f_9012 at ho
  refine ab_enter (I := i9012) rfl (Nat.le_of_ble_eq_true rfl) (fun R hR => ?_)
  refine us_iload_n hR dX8_markOfTwo_0 rfl ?_
  refine us_bipushC hR dX8_markOfTwo_1 (c := 61) (by decide) ?_
  refine us_icmp_ne hR dX8_markOfTwo_3 52 (by decide) (fun c1 => ?_) (fun c1 => ?_)
  · rw [if_neg c1] at ho
    refine us_iload_n hR dX8_markOfTwo_52 rfl ?_
    refine us_iload_n hR dX8_markOfTwo_53 rfl ?_
    refine us_icmp_eq hR dX8_markOfTwo_54 59 (by decide) (fun c2 => ?_) (fun c2 => ?_)
    · rw [if_pos c2] at ho
      refine us_iload_n hR dX8_markOfTwo_59 rfl ?_
      refine us_bipushC hR dX8_markOfTwo_60 (c := 38) (by decide) ?_
      refine us_icmp_ne hR dX8_markOfTwo_62 70 (by decide) (fun c3 => ?_) (fun c3 => ?_)
      · rw [if_neg c3] at ho
        refine us_iload_n hR dX8_markOfTwo_70 rfl ?_
        refine us_bipushC hR dX8_markOfTwo_71 (c := 124) (by decide) ?_
        refine us_icmp_ne hR dX8_markOfTwo_73 81 (by decide) (fun c4 => ?_) (fun c4 => ?_)
        · rw [if_neg c4] at ho
          refine us_iconstC hR dX8_markOfTwo_81 (c := 1) (by decide) ?_
          refine us_iret hR dX8_markOfTwo_82 rfl rfl ?_
          subst ho
          exact h2
        · rw [if_pos c4] at ho
          refine us_bipushC hR dX8_markOfTwo_76 (c := 24) (by decide) ?_
          refine us_goto hR dX8_markOfTwo_78 82 (by decide) ?_
          refine us_iret hR dX8_markOfTwo_82 rfl rfl ?_
          subst ho
          exact h2
      · rw [if_pos c3] at ho
        refine us_bipushC hR dX8_markOfTwo_65 (c := 23) (by decide) ?_
        refine us_goto hR dX8_markOfTwo_67 82 (by decide) ?_
        refine us_iret hR dX8_markOfTwo_82 rfl rfl ?_
        subst ho
        exact h2
    · rw [if_neg c2] at ho
      refine us_iconstC hR dX8_markOfTwo_57 (c := 1) (by decide) ?_
      refine us_iret hR dX8_markOfTwo_58 rfl rfl ?_
      subst ho
      exact h2
  · rw [if_pos c1] at ho
    refine us_iload_n hR dX8_markOfTwo_6 rfl ?_
    refine us_bipushC hR dX8_markOfTwo_7 (c := 60) (by decide) ?_
    refine us_icmp_ne hR dX8_markOfTwo_9 17 (by decide) (fun c5 => ?_) (fun c5 => ?_)
    · rw [if_neg c5] at ho
      refine us_iload_n hR dX8_markOfTwo_17 rfl ?_
      refine us_bipushC hR dX8_markOfTwo_18 (c := 62) (by decide) ?_
      refine us_icmp_ne hR dX8_markOfTwo_20 28 (by decide) (fun c6 => ?_) (fun c6 => ?_)
      · rw [if_neg c6] at ho
        refine us_iload_n hR dX8_markOfTwo_28 rfl ?_
        refine us_bipushC hR dX8_markOfTwo_29 (c := 61) (by decide) ?_
        refine us_icmp_ne hR dX8_markOfTwo_31 39 (by decide) (fun c7 => ?_) (fun c7 => ?_)
        · rw [if_neg c7] at ho
          refine us_iload_n hR dX8_markOfTwo_39 rfl ?_
          refine us_bipushC hR dX8_markOfTwo_40 (c := 33) (by decide) ?_
          refine us_icmp_ne hR dX8_markOfTwo_42 50 (by decide) (fun c8 => ?_) (fun c8 => ?_)
          · rw [if_neg c8] at ho
            refine us_iconstC hR dX8_markOfTwo_50 (c := 1) (by decide) ?_
            refine us_iret hR dX8_markOfTwo_51 rfl rfl ?_
            subst ho
            exact h2
          · rw [if_pos c8] at ho
            refine us_bipushC hR dX8_markOfTwo_45 (c := 22) (by decide) ?_
            refine us_goto hR dX8_markOfTwo_47 51 (by decide) ?_
            refine us_iret hR dX8_markOfTwo_51 rfl rfl ?_
            subst ho
            exact h2
        · rw [if_pos c7] at ho
          refine us_bipushC hR dX8_markOfTwo_34 (c := 21) (by decide) ?_
          refine us_goto hR dX8_markOfTwo_36 51 (by decide) ?_
          refine us_iret hR dX8_markOfTwo_51 rfl rfl ?_
          subst ho
          exact h2
      · rw [if_pos c6] at ho
        refine us_bipushC hR dX8_markOfTwo_23 (c := 20) (by decide) ?_
        refine us_goto hR dX8_markOfTwo_25 51 (by decide) ?_
        refine us_iret hR dX8_markOfTwo_51 rfl rfl ?_
        subst ho
        exact h2
    · rw [if_pos c5] at ho
      refine us_bipushC hR dX8_markOfTwo_12 (c := 18) (by decide) ?_
      refine us_goto hR dX8_markOfTwo_14 51 (by decide) ?_
      refine us_iret hR dX8_markOfTwo_51 rfl rfl ?_
      subst ho
      exact h2
def f_9013 (x0 : Int32) (s : Sx) : Int32 :=
  if x0 = 33 then
    25
  else if x0 = 35 then
    26
  else if x0 = 37 then
    16
  else if x0 = 40 then
    28
  else if x0 = 41 then
    29
  else if x0 = 42 then
    14
  else if x0 = 43 then
    12
  else if x0 = 44 then
    32
  else if x0 = 45 then
    13
  else if x0 = 47 then
    15
  else if x0 = 59 then
    33
  else if x0 = 60 then
    17
  else if x0 = 61 then
    27
  else if x0 = 62 then
    19
  else if x0 = 123 then
    30
  else if x0 = 125 then
    31
  else
    1
theorem sp_9013 {d : Nat} {G : ab_G} {ad : Nat → Nat} {I : Nat → Nat → Int32} {s : Sx} {P : ab_Pq} {X : ab_Xq} (hE : EV G ad) (hP : Rep I ad s) {x0 : Int32}  (h : P (gW G I) (some (.int (f_9013 x0 s)))) : ab_Gam (d + 1) 9013 [.int x0] (gW G I) P X := by
  obtain ⟨o, ho⟩ : ∃ o, o = f_9013 x0 s := ⟨_, rfl⟩
  rw [← ho] at h
  have h2 := h
  have hF : FrE ad I I := FrE_rfl
  unfold f_9013 at ho
  refine ab_enter (I := i9013) rfl (Nat.le_of_ble_eq_true rfl) (fun R hR => ?_)
  refine us_iload_n hR dX8_markOfOne_0 rfl ?_
  refine us_lsw hR dX8_markOfOne_1 (by decide) ⟨fun c1 => ⟨by decide, ?_⟩, fun c1_0 => ⟨fun c1 => ⟨by decide, ?_⟩, fun c1_1 => ⟨fun c1 => ⟨by decide, ?_⟩, fun c1_2 => ⟨fun c1 => ⟨by decide, ?_⟩, fun c1_3 => ⟨fun c1 => ⟨by decide, ?_⟩, fun c1_4 => ⟨fun c1 => ⟨by decide, ?_⟩, fun c1_5 => ⟨fun c1 => ⟨by decide, ?_⟩, fun c1_6 => ⟨fun c1 => ⟨by decide, ?_⟩, fun c1_7 => ⟨fun c1 => ⟨by decide, ?_⟩, fun c1_8 => ⟨fun c1 => ⟨by decide, ?_⟩, fun c1_9 => ⟨fun c1 => ⟨by decide, ?_⟩, fun c1_10 => ⟨fun c1 => ⟨by decide, ?_⟩, fun c1_11 => ⟨fun c1 => ⟨by decide, ?_⟩, fun c1_12 => ⟨fun c1 => ⟨by decide, ?_⟩, fun c1_13 => ⟨fun c1 => ⟨by decide, ?_⟩, fun c1_14 => ⟨fun c1 => ⟨by decide, ?_⟩, fun c1_15 => ⟨by decide, ?_⟩⟩⟩⟩⟩⟩⟩⟩⟩⟩⟩⟩⟩⟩⟩⟩⟩
  · rw [if_pos (i_sw (v := 33) c1)] at ho
    refine us_bipushC hR dX8_markOfOne_161 (c := 25) (by decide) ?_
    refine us_iret hR dX8_markOfOne_163 rfl rfl ?_
    subst ho
    exact h2
  · rw [if_neg (i_sw_x (v := 35) (w := 33) c1 (by decide)), if_pos (i_sw (v := 35) c1)] at ho
    refine us_bipushC hR dX8_markOfOne_164 (c := 26) (by decide) ?_
    refine us_iret hR dX8_markOfOne_166 rfl rfl ?_
    subst ho
    exact h2
  · rw [if_neg (i_sw_x (v := 37) (w := 33) c1 (by decide)), if_neg (i_sw_x (v := 37) (w := 35) c1 (by decide)), if_pos (i_sw (v := 37) c1)] at ho
    refine us_bipushC hR dX8_markOfOne_152 (c := 16) (by decide) ?_
    refine us_iret hR dX8_markOfOne_154 rfl rfl ?_
    subst ho
    exact h2
  · rw [if_neg (i_sw_x (v := 40) (w := 33) c1 (by decide)), if_neg (i_sw_x (v := 40) (w := 35) c1 (by decide)), if_neg (i_sw_x (v := 40) (w := 37) c1 (by decide)), if_pos (i_sw (v := 40) c1)] at ho
    refine us_bipushC hR dX8_markOfOne_170 (c := 28) (by decide) ?_
    refine us_iret hR dX8_markOfOne_172 rfl rfl ?_
    subst ho
    exact h2
  · rw [if_neg (i_sw_x (v := 41) (w := 33) c1 (by decide)), if_neg (i_sw_x (v := 41) (w := 35) c1 (by decide)), if_neg (i_sw_x (v := 41) (w := 37) c1 (by decide)), if_neg (i_sw_x (v := 41) (w := 40) c1 (by decide)), if_pos (i_sw (v := 41) c1)] at ho
    refine us_bipushC hR dX8_markOfOne_173 (c := 29) (by decide) ?_
    refine us_iret hR dX8_markOfOne_175 rfl rfl ?_
    subst ho
    exact h2
  · rw [if_neg (i_sw_x (v := 42) (w := 33) c1 (by decide)), if_neg (i_sw_x (v := 42) (w := 35) c1 (by decide)), if_neg (i_sw_x (v := 42) (w := 37) c1 (by decide)), if_neg (i_sw_x (v := 42) (w := 40) c1 (by decide)), if_neg (i_sw_x (v := 42) (w := 41) c1 (by decide)), if_pos (i_sw (v := 42) c1)] at ho
    refine us_bipushC hR dX8_markOfOne_146 (c := 14) (by decide) ?_
    refine us_iret hR dX8_markOfOne_148 rfl rfl ?_
    subst ho
    exact h2
  · rw [if_neg (i_sw_x (v := 43) (w := 33) c1 (by decide)), if_neg (i_sw_x (v := 43) (w := 35) c1 (by decide)), if_neg (i_sw_x (v := 43) (w := 37) c1 (by decide)), if_neg (i_sw_x (v := 43) (w := 40) c1 (by decide)), if_neg (i_sw_x (v := 43) (w := 41) c1 (by decide)), if_neg (i_sw_x (v := 43) (w := 42) c1 (by decide)), if_pos (i_sw (v := 43) c1)] at ho
    refine us_bipushC hR dX8_markOfOne_140 (c := 12) (by decide) ?_
    refine us_iret hR dX8_markOfOne_142 rfl rfl ?_
    subst ho
    exact h2
  · rw [if_neg (i_sw_x (v := 44) (w := 33) c1 (by decide)), if_neg (i_sw_x (v := 44) (w := 35) c1 (by decide)), if_neg (i_sw_x (v := 44) (w := 37) c1 (by decide)), if_neg (i_sw_x (v := 44) (w := 40) c1 (by decide)), if_neg (i_sw_x (v := 44) (w := 41) c1 (by decide)), if_neg (i_sw_x (v := 44) (w := 42) c1 (by decide)), if_neg (i_sw_x (v := 44) (w := 43) c1 (by decide)), if_pos (i_sw (v := 44) c1)] at ho
    refine us_bipushC hR dX8_markOfOne_182 (c := 32) (by decide) ?_
    refine us_iret hR dX8_markOfOne_184 rfl rfl ?_
    subst ho
    exact h2
  · rw [if_neg (i_sw_x (v := 45) (w := 33) c1 (by decide)), if_neg (i_sw_x (v := 45) (w := 35) c1 (by decide)), if_neg (i_sw_x (v := 45) (w := 37) c1 (by decide)), if_neg (i_sw_x (v := 45) (w := 40) c1 (by decide)), if_neg (i_sw_x (v := 45) (w := 41) c1 (by decide)), if_neg (i_sw_x (v := 45) (w := 42) c1 (by decide)), if_neg (i_sw_x (v := 45) (w := 43) c1 (by decide)), if_neg (i_sw_x (v := 45) (w := 44) c1 (by decide)), if_pos (i_sw (v := 45) c1)] at ho
    refine us_bipushC hR dX8_markOfOne_143 (c := 13) (by decide) ?_
    refine us_iret hR dX8_markOfOne_145 rfl rfl ?_
    subst ho
    exact h2
  · rw [if_neg (i_sw_x (v := 47) (w := 33) c1 (by decide)), if_neg (i_sw_x (v := 47) (w := 35) c1 (by decide)), if_neg (i_sw_x (v := 47) (w := 37) c1 (by decide)), if_neg (i_sw_x (v := 47) (w := 40) c1 (by decide)), if_neg (i_sw_x (v := 47) (w := 41) c1 (by decide)), if_neg (i_sw_x (v := 47) (w := 42) c1 (by decide)), if_neg (i_sw_x (v := 47) (w := 43) c1 (by decide)), if_neg (i_sw_x (v := 47) (w := 44) c1 (by decide)), if_neg (i_sw_x (v := 47) (w := 45) c1 (by decide)), if_pos (i_sw (v := 47) c1)] at ho
    refine us_bipushC hR dX8_markOfOne_149 (c := 15) (by decide) ?_
    refine us_iret hR dX8_markOfOne_151 rfl rfl ?_
    subst ho
    exact h2
  · rw [if_neg (i_sw_x (v := 59) (w := 33) c1 (by decide)), if_neg (i_sw_x (v := 59) (w := 35) c1 (by decide)), if_neg (i_sw_x (v := 59) (w := 37) c1 (by decide)), if_neg (i_sw_x (v := 59) (w := 40) c1 (by decide)), if_neg (i_sw_x (v := 59) (w := 41) c1 (by decide)), if_neg (i_sw_x (v := 59) (w := 42) c1 (by decide)), if_neg (i_sw_x (v := 59) (w := 43) c1 (by decide)), if_neg (i_sw_x (v := 59) (w := 44) c1 (by decide)), if_neg (i_sw_x (v := 59) (w := 45) c1 (by decide)), if_neg (i_sw_x (v := 59) (w := 47) c1 (by decide)), if_pos (i_sw (v := 59) c1)] at ho
    refine us_bipushC hR dX8_markOfOne_185 (c := 33) (by decide) ?_
    refine us_iret hR dX8_markOfOne_187 rfl rfl ?_
    subst ho
    exact h2
  · rw [if_neg (i_sw_x (v := 60) (w := 33) c1 (by decide)), if_neg (i_sw_x (v := 60) (w := 35) c1 (by decide)), if_neg (i_sw_x (v := 60) (w := 37) c1 (by decide)), if_neg (i_sw_x (v := 60) (w := 40) c1 (by decide)), if_neg (i_sw_x (v := 60) (w := 41) c1 (by decide)), if_neg (i_sw_x (v := 60) (w := 42) c1 (by decide)), if_neg (i_sw_x (v := 60) (w := 43) c1 (by decide)), if_neg (i_sw_x (v := 60) (w := 44) c1 (by decide)), if_neg (i_sw_x (v := 60) (w := 45) c1 (by decide)), if_neg (i_sw_x (v := 60) (w := 47) c1 (by decide)), if_neg (i_sw_x (v := 60) (w := 59) c1 (by decide)), if_pos (i_sw (v := 60) c1)] at ho
    refine us_bipushC hR dX8_markOfOne_155 (c := 17) (by decide) ?_
    refine us_iret hR dX8_markOfOne_157 rfl rfl ?_
    subst ho
    exact h2
  · rw [if_neg (i_sw_x (v := 61) (w := 33) c1 (by decide)), if_neg (i_sw_x (v := 61) (w := 35) c1 (by decide)), if_neg (i_sw_x (v := 61) (w := 37) c1 (by decide)), if_neg (i_sw_x (v := 61) (w := 40) c1 (by decide)), if_neg (i_sw_x (v := 61) (w := 41) c1 (by decide)), if_neg (i_sw_x (v := 61) (w := 42) c1 (by decide)), if_neg (i_sw_x (v := 61) (w := 43) c1 (by decide)), if_neg (i_sw_x (v := 61) (w := 44) c1 (by decide)), if_neg (i_sw_x (v := 61) (w := 45) c1 (by decide)), if_neg (i_sw_x (v := 61) (w := 47) c1 (by decide)), if_neg (i_sw_x (v := 61) (w := 59) c1 (by decide)), if_neg (i_sw_x (v := 61) (w := 60) c1 (by decide)), if_pos (i_sw (v := 61) c1)] at ho
    refine us_bipushC hR dX8_markOfOne_167 (c := 27) (by decide) ?_
    refine us_iret hR dX8_markOfOne_169 rfl rfl ?_
    subst ho
    exact h2
  · rw [if_neg (i_sw_x (v := 62) (w := 33) c1 (by decide)), if_neg (i_sw_x (v := 62) (w := 35) c1 (by decide)), if_neg (i_sw_x (v := 62) (w := 37) c1 (by decide)), if_neg (i_sw_x (v := 62) (w := 40) c1 (by decide)), if_neg (i_sw_x (v := 62) (w := 41) c1 (by decide)), if_neg (i_sw_x (v := 62) (w := 42) c1 (by decide)), if_neg (i_sw_x (v := 62) (w := 43) c1 (by decide)), if_neg (i_sw_x (v := 62) (w := 44) c1 (by decide)), if_neg (i_sw_x (v := 62) (w := 45) c1 (by decide)), if_neg (i_sw_x (v := 62) (w := 47) c1 (by decide)), if_neg (i_sw_x (v := 62) (w := 59) c1 (by decide)), if_neg (i_sw_x (v := 62) (w := 60) c1 (by decide)), if_neg (i_sw_x (v := 62) (w := 61) c1 (by decide)), if_pos (i_sw (v := 62) c1)] at ho
    refine us_bipushC hR dX8_markOfOne_158 (c := 19) (by decide) ?_
    refine us_iret hR dX8_markOfOne_160 rfl rfl ?_
    subst ho
    exact h2
  · rw [if_neg (i_sw_x (v := 123) (w := 33) c1 (by decide)), if_neg (i_sw_x (v := 123) (w := 35) c1 (by decide)), if_neg (i_sw_x (v := 123) (w := 37) c1 (by decide)), if_neg (i_sw_x (v := 123) (w := 40) c1 (by decide)), if_neg (i_sw_x (v := 123) (w := 41) c1 (by decide)), if_neg (i_sw_x (v := 123) (w := 42) c1 (by decide)), if_neg (i_sw_x (v := 123) (w := 43) c1 (by decide)), if_neg (i_sw_x (v := 123) (w := 44) c1 (by decide)), if_neg (i_sw_x (v := 123) (w := 45) c1 (by decide)), if_neg (i_sw_x (v := 123) (w := 47) c1 (by decide)), if_neg (i_sw_x (v := 123) (w := 59) c1 (by decide)), if_neg (i_sw_x (v := 123) (w := 60) c1 (by decide)), if_neg (i_sw_x (v := 123) (w := 61) c1 (by decide)), if_neg (i_sw_x (v := 123) (w := 62) c1 (by decide)), if_pos (i_sw (v := 123) c1)] at ho
    refine us_bipushC hR dX8_markOfOne_176 (c := 30) (by decide) ?_
    refine us_iret hR dX8_markOfOne_178 rfl rfl ?_
    subst ho
    exact h2
  · rw [if_neg (i_sw_x (v := 125) (w := 33) c1 (by decide)), if_neg (i_sw_x (v := 125) (w := 35) c1 (by decide)), if_neg (i_sw_x (v := 125) (w := 37) c1 (by decide)), if_neg (i_sw_x (v := 125) (w := 40) c1 (by decide)), if_neg (i_sw_x (v := 125) (w := 41) c1 (by decide)), if_neg (i_sw_x (v := 125) (w := 42) c1 (by decide)), if_neg (i_sw_x (v := 125) (w := 43) c1 (by decide)), if_neg (i_sw_x (v := 125) (w := 44) c1 (by decide)), if_neg (i_sw_x (v := 125) (w := 45) c1 (by decide)), if_neg (i_sw_x (v := 125) (w := 47) c1 (by decide)), if_neg (i_sw_x (v := 125) (w := 59) c1 (by decide)), if_neg (i_sw_x (v := 125) (w := 60) c1 (by decide)), if_neg (i_sw_x (v := 125) (w := 61) c1 (by decide)), if_neg (i_sw_x (v := 125) (w := 62) c1 (by decide)), if_neg (i_sw_x (v := 125) (w := 123) c1 (by decide)), if_pos (i_sw (v := 125) c1)] at ho
    refine us_bipushC hR dX8_markOfOne_179 (c := 31) (by decide) ?_
    refine us_iret hR dX8_markOfOne_181 rfl rfl ?_
    subst ho
    exact h2
  · rw [if_neg (i_sw_n (v := 33) c1_0), if_neg (i_sw_n (v := 35) c1_1), if_neg (i_sw_n (v := 37) c1_2), if_neg (i_sw_n (v := 40) c1_3), if_neg (i_sw_n (v := 41) c1_4), if_neg (i_sw_n (v := 42) c1_5), if_neg (i_sw_n (v := 43) c1_6), if_neg (i_sw_n (v := 44) c1_7), if_neg (i_sw_n (v := 45) c1_8), if_neg (i_sw_n (v := 47) c1_9), if_neg (i_sw_n (v := 59) c1_10), if_neg (i_sw_n (v := 60) c1_11), if_neg (i_sw_n (v := 61) c1_12), if_neg (i_sw_n (v := 62) c1_13), if_neg (i_sw_n (v := 123) c1_14), if_neg (i_sw_n (v := 125) c1_15)] at ho
    refine us_iconstC hR dX8_markOfOne_188 (c := 1) (by decide) ?_
    refine us_iret hR dX8_markOfOne_189 rfl rfl ?_
    subst ho
    exact h2
def f_9014 (x0 : Int32) (s : Sx) : Int32 :=
  if x0 < 48 then
    0
  else
    if 57 < x0 then
      0
    else
      1
theorem sp_9014 {d : Nat} {G : ab_G} {ad : Nat → Nat} {I : Nat → Nat → Int32} {s : Sx} {P : ab_Pq} {X : ab_Xq} (hE : EV G ad) (hP : Rep I ad s) {x0 : Int32}  (h : (f_9014 x0 s = 0 ∨ f_9014 x0 s = 1) → P (gW G I) (some (.int (f_9014 x0 s)))) : ab_Gam (d + 1) 9014 [.int x0] (gW G I) P X := by
  obtain ⟨o, ho⟩ : ∃ o, o = f_9014 x0 s := ⟨_, rfl⟩
  rw [← ho] at h
  have h2 := h
  have hF : FrE ad I I := FrE_rfl
  unfold f_9014 at ho
  refine ab_enter (I := i9014) rfl (Nat.le_of_ble_eq_true rfl) (fun R hR => ?_)
  refine us_iload_n hR dX8_isDigit_0 rfl ?_
  refine us_bipushC hR dX8_isDigit_1 (c := 48) (by decide) ?_
  refine us_icmp_lt hR dX8_isDigit_3 16 (by decide) (fun c1 => ?_) (fun c1 => ?_)
  · rw [if_pos c1] at ho
    refine us_iconstC hR dX8_isDigit_16 (c := 0) (by decide) ?_
    refine us_iret hR dX8_isDigit_17 rfl (nar01 (Or.inl rfl)) ?_
    subst ho
    exact h2 (Or.inl rfl) 
  · rw [if_neg c1] at ho
    refine us_iload_n hR dX8_isDigit_6 rfl ?_
    refine us_bipushC hR dX8_isDigit_7 (c := 57) (by decide) ?_
    refine us_icmp_gt hR dX8_isDigit_9 16 (by decide) (fun c2 => ?_) (fun c2 => ?_)
    · rw [if_pos c2] at ho
      refine us_iconstC hR dX8_isDigit_16 (c := 0) (by decide) ?_
      refine us_iret hR dX8_isDigit_17 rfl (nar01 (Or.inl rfl)) ?_
      subst ho
      exact h2 (Or.inl rfl) 
    · rw [if_neg c2] at ho
      refine us_iconstC hR dX8_isDigit_12 (c := 1) (by decide) ?_
      refine us_goto hR dX8_isDigit_13 17 (by decide) ?_
      refine us_iret hR dX8_isDigit_17 rfl (nar01 (Or.inr rfl)) ?_
      subst ho
      exact h2 (Or.inr rfl) 
def f_9015 (x0 : Int32) (s : Sx) : Int32 :=
  if x0 < 97 then
    0
  else
    if 122 < x0 then
      0
    else
      1
theorem sp_9015 {d : Nat} {G : ab_G} {ad : Nat → Nat} {I : Nat → Nat → Int32} {s : Sx} {P : ab_Pq} {X : ab_Xq} (hE : EV G ad) (hP : Rep I ad s) {x0 : Int32}  (h : (f_9015 x0 s = 0 ∨ f_9015 x0 s = 1) → P (gW G I) (some (.int (f_9015 x0 s)))) : ab_Gam (d + 1) 9015 [.int x0] (gW G I) P X := by
  obtain ⟨o, ho⟩ : ∃ o, o = f_9015 x0 s := ⟨_, rfl⟩
  rw [← ho] at h
  have h2 := h
  have hF : FrE ad I I := FrE_rfl
  unfold f_9015 at ho
  refine ab_enter (I := i9015) rfl (Nat.le_of_ble_eq_true rfl) (fun R hR => ?_)
  refine us_iload_n hR dX8_isLetter_0 rfl ?_
  refine us_bipushC hR dX8_isLetter_1 (c := 97) (by decide) ?_
  refine us_icmp_lt hR dX8_isLetter_3 16 (by decide) (fun c1 => ?_) (fun c1 => ?_)
  · rw [if_pos c1] at ho
    refine us_iconstC hR dX8_isLetter_16 (c := 0) (by decide) ?_
    refine us_iret hR dX8_isLetter_17 rfl (nar01 (Or.inl rfl)) ?_
    subst ho
    exact h2 (Or.inl rfl) 
  · rw [if_neg c1] at ho
    refine us_iload_n hR dX8_isLetter_6 rfl ?_
    refine us_bipushC hR dX8_isLetter_7 (c := 122) (by decide) ?_
    refine us_icmp_gt hR dX8_isLetter_9 16 (by decide) (fun c2 => ?_) (fun c2 => ?_)
    · rw [if_pos c2] at ho
      refine us_iconstC hR dX8_isLetter_16 (c := 0) (by decide) ?_
      refine us_iret hR dX8_isLetter_17 rfl (nar01 (Or.inl rfl)) ?_
      subst ho
      exact h2 (Or.inl rfl) 
    · rw [if_neg c2] at ho
      refine us_iconstC hR dX8_isLetter_12 (c := 1) (by decide) ?_
      refine us_goto hR dX8_isLetter_13 17 (by decide) ?_
      refine us_iret hR dX8_isLetter_17 rfl (nar01 (Or.inr rfl)) ?_
      subst ho
      exact h2 (Or.inr rfl) 
def f_9008_L13  : Nat → Int32 → Int32 → Nat → Int32 → Sx → Option Int32
  | 0, _, _, _, _, _ => none
  | n + 1, l1, l2, l3, l4, s =>
    if (Int32.ofNat (ab_tx l3).length) ≤ l4 then
      some 1
    else
      gd (vi l4 (ab_tx l3).length) <|
      if (xg (s.1 25) (l1 + l4)) = ((ab_tx l3).getD l4.toNatClampNeg 0) then
        f_9008_L13 n l1 l2 l3 (l4 + 1) s
      else
        some 0
def f_9008 (x1 : Int32) (x2 : Int32) (x3 : Nat) (s : Sx) : Option Int32 :=
  if x2 = (Int32.ofNat (ab_tx x3).length) then
    f_9008_L13 20 x1 x2 x3 0 s
  else
    some 0
theorem sp_9008 {d : Nat} {G : ab_G} {ad : Nat → Nat} {I : Nat → Nat → Int32} {s : Sx} {P : ab_Pq} {X : ab_Xq} (hE : EV G ad) (hP : Rep I ad s) {x1 : Int32} {x2 : Int32} {x3 : Nat} (hx3 : x3 < 7) {o : Int32} (ho : f_9008 x1 x2 x3 s = some o) (h : (o = 0 ∨ o = 1) → P (gW G I) (some (.int o))) : ab_Gam (d + 2) 9008 [.ref (ad (6 + 25)), .int x1, .int x2, .float (UInt32.ofNat (x3 + 1))] (gW G I) P X := by
  have h2 := h
  have hF : FrE ad I I := FrE_rfl
  unfold f_9008 at ho
  refine ab_enter (I := i9008) rfl (Nat.le_of_ble_eq_true rfl) (fun R hR => ?_)
  have h9008_L13 : ∀ (n : Nat) (l1 : Int32) (l2 : Int32) (l3 : Nat) (l4 : Int32)  (bc bs : Nat) (hl3 : l3 < 7) (ho : f_9008_L13 n l1 l2 l3 l4 s = some o), R 13 [some (.ref (ad (6 + 25))), some (.int l1), some (.int l2), some (.float (UInt32.ofNat (l3 + 1))), some (.int l4)] [] (gW G I) bc bs := by
    intro n
    induction n with
    | zero => intro l1 l2 l3 l4  bc bs hl3 ho; exact absurd ho (by intro hc; cases hc)
    | succ n13 ih13 =>
      intro l1 l2 l3 l4  bc bs hl3 ho
      rw [f_9008_L13] at ho
      refine us_iload hR dX8_isWord_13 rfl ?_
      refine us_aload_nF hR dX8_isWord_15 rfl ?_
      refine us_strlenC hR dX8_isWord_16 (by decide +kernel) (j := l3) hl3 (Nat.le_of_ble_eq_true rfl) ?_
      refine us_icmp_ge hR dX8_isWord_19 47 (by decide) (fun c1 => ?_) (fun c1 => ?_)
      · rw [if_pos c1] at ho
        refine us_iconstC hR dX8_isWord_47 (c := 1) (by decide) ?_
        refine us_iret hR dX8_isWord_48 rfl (nar01 (Or.inr rfl)) ?_
        cases ho
        exact h2 (Or.inr rfl) 
      · rw [if_neg c1] at ho
        refine us_aload_n hR dX8_isWord_22 rfl ?_
        refine us_iload_n hR dX8_isWord_23 rfl ?_
        refine us_iload hR dX8_isWord_24 rfl ?_
        refine us_iadd hR dX8_isWord_26 ?_
        refine us_callV hR dX8_isWord_27 (y := 6002) (by decide +kernel) (by decide) (J := i6002) rfl rfl rfl rfl (ev_rk hE (by decide)) rfl (Nat.le_of_ble_eq_true rfl) (Nat.zero_le _) (Nat.zero_le _) ?_
        refine cR_get hE hP 25 (by decide) ?_
        refine us_aload_nF hR dX8_isWord_30 rfl ?_
        refine us_iload hR dX8_isWord_31 rfl ?_
        have hg := vi_in (gd_c ho)
        rw [gd_e (vi_of hg)] at ho
        refine us_strcharC hR dX8_isWord_33 (by decide +kernel) (j := l3) hl3 (Nat.le_of_ble_eq_true rfl) hg ?_
        refine us_icmp_eq hR dX8_isWord_36 41 (by decide) (fun c3 => ?_) (fun c3 => ?_)
        · rw [if_pos c3] at ho
          refine us_iincC hR dX8_isWord_41 rfl (Nat.le_of_ble_eq_true rfl) (c := 1) (by decide) ?_
          refine us_goto hR dX8_isWord_44 13 (by decide) ?_
          exact ih13 l1 l2 l3 (l4 + 1)  _ _ hl3 ho
        · rw [if_neg c3] at ho
          refine us_iconstC hR dX8_isWord_39 (c := 0) (by decide) ?_
          refine us_iret hR dX8_isWord_40 rfl (nar01 (Or.inl rfl)) ?_
          cases ho
          exact h2 (Or.inl rfl) 
  refine us_iload_n hR dX8_isWord_0 rfl ?_
  refine us_aload_nF hR dX8_isWord_1 rfl ?_
  refine us_strlenC hR dX8_isWord_2 (by decide +kernel) (j := x3) hx3 (Nat.le_of_ble_eq_true rfl) ?_
  refine us_icmp_eq hR dX8_isWord_5 10 (by decide) (fun c4 => ?_) (fun c4 => ?_)
  · rw [if_pos c4] at ho
    refine us_iconstC hR dX8_isWord_10 (c := 0) (by decide) ?_
    refine us_istore hR dX8_isWord_11 (Nat.le_of_ble_eq_true rfl) ?_
    exact h9008_L13 _ x1 x2 x3 0  _ _ hx3 ho
  · rw [if_neg c4] at ho
    refine us_iconstC hR dX8_isWord_8 (c := 0) (by decide) ?_
    refine us_iret hR dX8_isWord_9 rfl (nar01 (Or.inl rfl)) ?_
    cases ho
    exact h2 (Or.inl rfl) 
def f_9007 (x1 : Int32) (x2 : Int32) (s : Sx) : Option Int32 :=
  bP (f_9008 x1 x2 0 s) fun r1 =>
  if r1 = 0 then
    bP (f_9008 x1 x2 1 s) fun r3 =>
    if r3 = 0 then
      bP (f_9008 x1 x2 2 s) fun r5 =>
      if r5 = 0 then
        bP (f_9008 x1 x2 3 s) fun r7 =>
        if r7 = 0 then
          bP (f_9008 x1 x2 4 s) fun r9 =>
          if r9 = 0 then
            bP (f_9008 x1 x2 5 s) fun r11 =>
            if r11 = 0 then
              bP (f_9008 x1 x2 6 s) fun r13 =>
              if r13 = 0 then
                some 4
              else
                some 11
            else
              some 10
          else
            some 9
        else
          some 8
      else
        some 7
    else
      some 6
  else
    some 5
theorem sp_9007 {d : Nat} {G : ab_G} {ad : Nat → Nat} {I : Nat → Nat → Int32} {s : Sx} {P : ab_Pq} {X : ab_Xq} (hE : EV G ad) (hP : Rep I ad s) {x1 : Int32} {x2 : Int32}  {o : Int32} (ho : f_9007 x1 x2 s = some o) (h : P (gW G I) (some (.int o))) : ab_Gam (d + 3) 9007 [.ref (ad (6 + 25)), .int x1, .int x2] (gW G I) P X := by
  have h2 := h
  have hF : FrE ad I I := FrE_rfl
  unfold f_9007 at ho
  refine ab_enter (I := i9007) rfl (Nat.le_of_ble_eq_true rfl) (fun R hR => ?_)
  refine us_aload_n hR dX8_keyword_0 rfl ?_
  refine us_iload_n hR dX8_keyword_1 rfl ?_
  refine us_iload_n hR dX8_keyword_2 rfl ?_
  refine us_ldcS hR dX8_keyword_3 (by decide +kernel) (j := 0) (by decide +kernel) ?_
  refine us_callS hR dX8_keyword_5 (y := 9008) (by decide +kernel) (by decide) (J := i9008) rfl rfl rfl rfl (rest := _) (Nat.le_of_ble_eq_true rfl) (Nat.zero_le _) (Nat.zero_le _) ?_
  obtain ⟨r1, hr1⟩ := bP_ex ho
  replace ho := bP_go ho hr1
  refine sp_9008 hE hP (by decide) hr1 (fun hb1 => ?_)
  refine us_if_eq hR dX8_keyword_8 15 (by decide) (fun c2 => ?_) (fun c2 => ?_)
  · rw [if_pos c2] at ho
    refine us_aload_n hR dX8_keyword_15 rfl ?_
    refine us_iload_n hR dX8_keyword_16 rfl ?_
    refine us_iload_n hR dX8_keyword_17 rfl ?_
    refine us_ldcS hR dX8_keyword_18 (by decide +kernel) (j := 1) (by decide +kernel) ?_
    refine us_callS hR dX8_keyword_20 (y := 9008) (by decide +kernel) (by decide) (J := i9008) rfl rfl rfl rfl (rest := _) (Nat.le_of_ble_eq_true rfl) (Nat.zero_le _) (Nat.zero_le _) ?_
    obtain ⟨r3, hr3⟩ := bP_ex ho
    replace ho := bP_go ho hr3
    refine sp_9008 hE hP (by decide) hr3 (fun hb3 => ?_)
    refine us_if_eq hR dX8_keyword_23 31 (by decide) (fun c4 => ?_) (fun c4 => ?_)
    · rw [if_pos c4] at ho
      refine us_aload_n hR dX8_keyword_31 rfl ?_
      refine us_iload_n hR dX8_keyword_32 rfl ?_
      refine us_iload_n hR dX8_keyword_33 rfl ?_
      refine us_ldcS hR dX8_keyword_34 (by decide +kernel) (j := 2) (by decide +kernel) ?_
      refine us_callS hR dX8_keyword_36 (y := 9008) (by decide +kernel) (by decide) (J := i9008) rfl rfl rfl rfl (rest := _) (Nat.le_of_ble_eq_true rfl) (Nat.zero_le _) (Nat.zero_le _) ?_
      obtain ⟨r5, hr5⟩ := bP_ex ho
      replace ho := bP_go ho hr5
      refine sp_9008 hE hP (by decide) hr5 (fun hb5 => ?_)
      refine us_if_eq hR dX8_keyword_39 47 (by decide) (fun c6 => ?_) (fun c6 => ?_)
      · rw [if_pos c6] at ho
        refine us_aload_n hR dX8_keyword_47 rfl ?_
        refine us_iload_n hR dX8_keyword_48 rfl ?_
        refine us_iload_n hR dX8_keyword_49 rfl ?_
        refine us_ldcS hR dX8_keyword_50 (by decide +kernel) (j := 3) (by decide +kernel) ?_
        refine us_callS hR dX8_keyword_52 (y := 9008) (by decide +kernel) (by decide) (J := i9008) rfl rfl rfl rfl (rest := _) (Nat.le_of_ble_eq_true rfl) (Nat.zero_le _) (Nat.zero_le _) ?_
        obtain ⟨r7, hr7⟩ := bP_ex ho
        replace ho := bP_go ho hr7
        refine sp_9008 hE hP (by decide) hr7 (fun hb7 => ?_)
        refine us_if_eq hR dX8_keyword_55 63 (by decide) (fun c8 => ?_) (fun c8 => ?_)
        · rw [if_pos c8] at ho
          refine us_aload_n hR dX8_keyword_63 rfl ?_
          refine us_iload_n hR dX8_keyword_64 rfl ?_
          refine us_iload_n hR dX8_keyword_65 rfl ?_
          refine us_ldcS hR dX8_keyword_66 (by decide +kernel) (j := 4) (by decide +kernel) ?_
          refine us_callS hR dX8_keyword_68 (y := 9008) (by decide +kernel) (by decide) (J := i9008) rfl rfl rfl rfl (rest := _) (Nat.le_of_ble_eq_true rfl) (Nat.zero_le _) (Nat.zero_le _) ?_
          obtain ⟨r9, hr9⟩ := bP_ex ho
          replace ho := bP_go ho hr9
          refine sp_9008 hE hP (by decide) hr9 (fun hb9 => ?_)
          refine us_if_eq hR dX8_keyword_71 79 (by decide) (fun c10 => ?_) (fun c10 => ?_)
          · rw [if_pos c10] at ho
            refine us_aload_n hR dX8_keyword_79 rfl ?_
            refine us_iload_n hR dX8_keyword_80 rfl ?_
            refine us_iload_n hR dX8_keyword_81 rfl ?_
            refine us_ldcS hR dX8_keyword_82 (by decide +kernel) (j := 5) (by decide +kernel) ?_
            refine us_callS hR dX8_keyword_84 (y := 9008) (by decide +kernel) (by decide) (J := i9008) rfl rfl rfl rfl (rest := _) (Nat.le_of_ble_eq_true rfl) (Nat.zero_le _) (Nat.zero_le _) ?_
            obtain ⟨r11, hr11⟩ := bP_ex ho
            replace ho := bP_go ho hr11
            refine sp_9008 hE hP (by decide) hr11 (fun hb11 => ?_)
            refine us_if_eq hR dX8_keyword_87 95 (by decide) (fun c12 => ?_) (fun c12 => ?_)
            · rw [if_pos c12] at ho
              refine us_aload_n hR dX8_keyword_95 rfl ?_
              refine us_iload_n hR dX8_keyword_96 rfl ?_
              refine us_iload_n hR dX8_keyword_97 rfl ?_
              refine us_ldcS hR dX8_keyword_98 (by decide +kernel) (j := 6) (by decide +kernel) ?_
              refine us_callS hR dX8_keyword_100 (y := 9008) (by decide +kernel) (by decide) (J := i9008) rfl rfl rfl rfl (rest := _) (Nat.le_of_ble_eq_true rfl) (Nat.zero_le _) (Nat.zero_le _) ?_
              obtain ⟨r13, hr13⟩ := bP_ex ho
              replace ho := bP_go ho hr13
              refine sp_9008 hE hP (by decide) hr13 (fun hb13 => ?_)
              refine us_if_eq hR dX8_keyword_103 111 (by decide) (fun c14 => ?_) (fun c14 => ?_)
              · rw [if_pos c14] at ho
                refine us_iconstC hR dX8_keyword_111 (c := 4) (by decide) ?_
                refine us_iret hR dX8_keyword_112 rfl rfl ?_
                cases ho
                exact h2
              · rw [if_neg c14] at ho
                refine us_bipushC hR dX8_keyword_106 (c := 11) (by decide) ?_
                refine us_goto hR dX8_keyword_108 112 (by decide) ?_
                refine us_iret hR dX8_keyword_112 rfl rfl ?_
                cases ho
                exact h2
            · rw [if_neg c12] at ho
              refine us_bipushC hR dX8_keyword_90 (c := 10) (by decide) ?_
              refine us_goto hR dX8_keyword_92 112 (by decide) ?_
              refine us_iret hR dX8_keyword_112 rfl rfl ?_
              cases ho
              exact h2
          · rw [if_neg c10] at ho
            refine us_bipushC hR dX8_keyword_74 (c := 9) (by decide) ?_
            refine us_goto hR dX8_keyword_76 112 (by decide) ?_
            refine us_iret hR dX8_keyword_112 rfl rfl ?_
            cases ho
            exact h2
        · rw [if_neg c8] at ho
          refine us_bipushC hR dX8_keyword_58 (c := 8) (by decide) ?_
          refine us_goto hR dX8_keyword_60 112 (by decide) ?_
          refine us_iret hR dX8_keyword_112 rfl rfl ?_
          cases ho
          exact h2
      · rw [if_neg c6] at ho
        refine us_bipushC hR dX8_keyword_42 (c := 7) (by decide) ?_
        refine us_goto hR dX8_keyword_44 112 (by decide) ?_
        refine us_iret hR dX8_keyword_112 rfl rfl ?_
        cases ho
        exact h2
    · rw [if_neg c4] at ho
      refine us_bipushC hR dX8_keyword_26 (c := 6) (by decide) ?_
      refine us_goto hR dX8_keyword_28 112 (by decide) ?_
      refine us_iret hR dX8_keyword_112 rfl rfl ?_
      cases ho
      exact h2
  · rw [if_neg c2] at ho
    refine us_iconstC hR dX8_keyword_11 (c := 5) (by decide) ?_
    refine us_goto hR dX8_keyword_12 112 (by decide) ?_
    refine us_iret hR dX8_keyword_112 rfl rfl ?_
    cases ho
    exact h2
def f_9010_L3  : Nat → Int32 → Int32 → Int32 → Int32 → Sx → Option Int32
  | 0, _, _, _, _, _ => none
  | n + 1, l1, l2, l3, l4, s =>
    if l3 ≤ l4 then
      some 1
    else
      if (xg (s.1 25) (l1 + l4)) = (xg (s.1 25) (l2 + l4)) then
        f_9010_L3 n l1 l2 l3 (l4 + 1) s
      else
        some 0
def f_9010 (x1 : Int32) (x2 : Int32) (x3 : Int32) (s : Sx) : Option Int32 :=
  f_9010_L3 400 x1 x2 x3 0 s
theorem sp_9010 {d : Nat} {G : ab_G} {ad : Nat → Nat} {I : Nat → Nat → Int32} {s : Sx} {P : ab_Pq} {X : ab_Xq} (hE : EV G ad) (hP : Rep I ad s) {x1 : Int32} {x2 : Int32} {x3 : Int32}  {o : Int32} (ho : f_9010 x1 x2 x3 s = some o) (h : (o = 0 ∨ o = 1) → P (gW G I) (some (.int o))) : ab_Gam (d + 2) 9010 [.ref (ad (6 + 25)), .int x1, .int x2, .int x3] (gW G I) P X := by
  have h2 := h
  have hF : FrE ad I I := FrE_rfl
  unfold f_9010 at ho
  refine ab_enter (I := i9010) rfl (Nat.le_of_ble_eq_true rfl) (fun R hR => ?_)
  have h9010_L3 : ∀ (n : Nat) (l1 : Int32) (l2 : Int32) (l3 : Int32) (l4 : Int32)  (bc bs : Nat) (ho : f_9010_L3 n l1 l2 l3 l4 s = some o), R 3 [some (.ref (ad (6 + 25))), some (.int l1), some (.int l2), some (.int l3), some (.int l4)] [] (gW G I) bc bs := by
    intro n
    induction n with
    | zero => intro l1 l2 l3 l4  bc bs  ho; exact absurd ho (by intro hc; cases hc)
    | succ n3 ih3 =>
      intro l1 l2 l3 l4  bc bs  ho
      rw [f_9010_L3] at ho
      refine us_iload hR dX8_areSame_3 rfl ?_
      refine us_iload_n hR dX8_areSame_5 rfl ?_
      refine us_icmp_ge hR dX8_areSame_6 36 (by decide) (fun c1 => ?_) (fun c1 => ?_)
      · rw [if_pos c1] at ho
        refine us_iconstC hR dX8_areSame_36 (c := 1) (by decide) ?_
        refine us_iret hR dX8_areSame_37 rfl (nar01 (Or.inr rfl)) ?_
        cases ho
        exact h2 (Or.inr rfl) 
      · rw [if_neg c1] at ho
        refine us_aload_n hR dX8_areSame_9 rfl ?_
        refine us_iload_n hR dX8_areSame_10 rfl ?_
        refine us_iload hR dX8_areSame_11 rfl ?_
        refine us_iadd hR dX8_areSame_13 ?_
        refine us_callV hR dX8_areSame_14 (y := 6002) (by decide +kernel) (by decide) (J := i6002) rfl rfl rfl rfl (ev_rk hE (by decide)) rfl (Nat.le_of_ble_eq_true rfl) (Nat.zero_le _) (Nat.zero_le _) ?_
        refine cR_get hE hP 25 (by decide) ?_
        refine us_aload_n hR dX8_areSame_17 rfl ?_
        refine us_iload_n hR dX8_areSame_18 rfl ?_
        refine us_iload hR dX8_areSame_19 rfl ?_
        refine us_iadd hR dX8_areSame_21 ?_
        refine us_callV hR dX8_areSame_22 (y := 6002) (by decide +kernel) (by decide) (J := i6002) rfl rfl rfl rfl (ev_rk hE (by decide)) rfl (Nat.le_of_ble_eq_true rfl) (Nat.zero_le _) (Nat.zero_le _) ?_
        refine cR_get hE hP 25 (by decide) ?_
        refine us_icmp_eq hR dX8_areSame_25 30 (by decide) (fun c4 => ?_) (fun c4 => ?_)
        · rw [if_pos c4] at ho
          refine us_iincC hR dX8_areSame_30 rfl (Nat.le_of_ble_eq_true rfl) (c := 1) (by decide) ?_
          refine us_goto hR dX8_areSame_33 3 (by decide) ?_
          exact ih3 l1 l2 l3 (l4 + 1)  _ _ ho
        · rw [if_neg c4] at ho
          refine us_iconstC hR dX8_areSame_28 (c := 0) (by decide) ?_
          refine us_iret hR dX8_areSame_29 rfl (nar01 (Or.inl rfl)) ?_
          cases ho
          exact h2 (Or.inl rfl) 
  refine us_iconstC hR dX8_areSame_0 (c := 0) (by decide) ?_
  refine us_istore hR dX8_areSame_1 (Nat.le_of_ble_eq_true rfl) ?_
  exact h9010_L3 _ x1 x2 x3 0  _ _ ho
def f_9009_L3  : Nat → Int32 → Int32 → Int32 → Sx → Option (Sx × Int32)
  | 0, _, _, _, _ => none
  | n + 1, l2, l3, l4, s =>
    if (nI (s.1 3).length) ≤ l4 then
      bS (sB s 3 (xadd (ev_cap 3) (s.1 3) l2)) fun s3 =>
      bS (sB s3 4 (xadd (ev_cap 4) (s3.1 4) l3)) fun s4 =>
      some (s4, ((nI (s4.1 3).length) - 1))
    else
      if (xg (s.1 4) l4) = l3 then
        bP (f_9010 (xg (s.1 3) l4) l2 l3 s) fun r9 =>
        if r9 = 0 then
          f_9009_L3 n l2 l3 (l4 + 1) s
        else
          some (s, l4)
      else
        f_9009_L3 n l2 l3 (l4 + 1) s
def f_9009 (x1 : Int32) (x2 : Int32) (s : Sx) : Option (Sx × Int32) :=
  f_9009_L3 400 x1 x2 0 s
theorem sp_9009 {d : Nat} {G : ab_G} {ad : Nat → Nat} {I : Nat → Nat → Int32} {s : Sx} {P : ab_Pq} {X : ab_Xq} (hE : EV G ad) (hP : Rep I ad s) {x1 : Int32} {x2 : Int32}  {o : Sx × Int32} (ho : f_9009 x1 x2 s = some o) (h : ∀ I1, Rep I1 ad o.1 → FrE ad I I1 → P (gW G I1) (some (.int o.2))) : ab_Gam (d + 3) 9009 [.ref (ad 1), .ref (ad (6 + 25)), .int x1, .int x2] (gW G I) P X := by
  have h2 := h
  have hF : FrE ad I I := FrE_rfl
  unfold f_9009 at ho
  refine ab_enter (I := i9009) rfl (Nat.le_of_ble_eq_true rfl) (fun R hR => ?_)
  have h9009_L3 : ∀ (n : Nat) (l2 : Int32) (l3 : Int32) (l4 : Int32)  (s : Sx) (Ia : Nat → Nat → Int32) (bc bs : Nat) (hPa : Rep Ia ad s) (hFa : FrE ad I Ia) (ho : f_9009_L3 n l2 l3 l4 s = some o), R 3 [some (.ref (ad 1)), some (.ref (ad (6 + 25))), some (.int l2), some (.int l3), some (.int l4)] [] (gW G Ia) bc bs := by
    intro n
    induction n with
    | zero => intro l2 l3 l4  s Ia bc bs  hPa hFa ho; exact absurd ho (by intro hc; cases hc)
    | succ n3 ih3 =>
      intro l2 l3 l4  s Ia bc bs  hPa hFa ho
      rw [f_9009_L3] at ho
      refine us_iload hR dX8_nameNumber_3 rfl ?_
      refine us_aload_n hR dX8_nameNumber_5 rfl ?_
      refine us_getR hR dX8_nameNumber_6 fR_9_26 (ev_k1 hE) rfl (ev_r_1_3 hE) ?_
      refine us_callV hR dX8_nameNumber_9 (y := 6001) (by decide +kernel) (by decide) (J := i6001) rfl rfl rfl rfl (ev_rk hE (by decide)) rfl (Nat.le_of_ble_eq_true rfl) (Nat.zero_le _) (Nat.zero_le _) ?_
      refine cR_size hE hPa 3 (by decide) ?_
      refine us_icmp_ge hR dX8_nameNumber_12 55 (by decide) (fun c2 => ?_) (fun c2 => ?_)
      · rw [if_pos c2] at ho
        refine us_aload_n hR dX8_nameNumber_55 rfl ?_
        refine us_getR hR dX8_nameNumber_56 fR_9_26 (ev_k1 hE) rfl (ev_r_1_3 hE) ?_
        refine us_iload_n hR dX8_nameNumber_59 rfl ?_
        refine us_callV hR dX8_nameNumber_60 (y := 6004) (by decide +kernel) (by decide) (J := i6004) rfl rfl rfl rfl (ev_rk hE (by decide)) rfl (Nat.le_of_ble_eq_true rfl) (Nat.zero_le _) (Nat.zero_le _) ?_
        refine cR_add hE hPa 3 (by decide) (fun I3 s3 hs3 hP3 hF3 => ?_)
        rw [← hs3, bS_eq] at ho
        have hF3 := hFa.tr hF3
        refine us_aload_n hR dX8_nameNumber_63 rfl ?_
        refine us_getR hR dX8_nameNumber_64 fR_9_29 (ev_k1 hE) rfl (ev_r_1_4 hE) ?_
        refine us_iload_n hR dX8_nameNumber_67 rfl ?_
        refine us_callV hR dX8_nameNumber_68 (y := 6004) (by decide +kernel) (by decide) (J := i6004) rfl rfl rfl rfl (ev_rk hE (by decide)) rfl (Nat.le_of_ble_eq_true rfl) (Nat.zero_le _) (Nat.zero_le _) ?_
        refine cR_add hE hP3 4 (by decide) (fun I4 s4 hs4 hP4 hF4 => ?_)
        rw [← hs4, bS_eq] at ho
        have hF4 := hF3.tr hF4
        refine us_aload_n hR dX8_nameNumber_71 rfl ?_
        refine us_getR hR dX8_nameNumber_72 fR_9_26 (ev_k1 hE) rfl (ev_r_1_3 hE) ?_
        refine us_callV hR dX8_nameNumber_75 (y := 6001) (by decide +kernel) (by decide) (J := i6001) rfl rfl rfl rfl (ev_rk hE (by decide)) rfl (Nat.le_of_ble_eq_true rfl) (Nat.zero_le _) (Nat.zero_le _) ?_
        refine cR_size hE hP4 3 (by decide) ?_
        refine us_iconstC hR dX8_nameNumber_78 (c := 1) (by decide) ?_
        refine us_isub hR dX8_nameNumber_79 ?_
        refine us_iret hR dX8_nameNumber_80 rfl rfl ?_
        cases ho
        exact h2 _ hP4 hF4
      · rw [if_neg c2] at ho
        refine us_aload_n hR dX8_nameNumber_15 rfl ?_
        refine us_getR hR dX8_nameNumber_16 fR_9_29 (ev_k1 hE) rfl (ev_r_1_4 hE) ?_
        refine us_iload hR dX8_nameNumber_19 rfl ?_
        refine us_callV hR dX8_nameNumber_21 (y := 6002) (by decide +kernel) (by decide) (J := i6002) rfl rfl rfl rfl (ev_rk hE (by decide)) rfl (Nat.le_of_ble_eq_true rfl) (Nat.zero_le _) (Nat.zero_le _) ?_
        refine cR_get hE hPa 4 (by decide) ?_
        refine us_iload_n hR dX8_nameNumber_24 rfl ?_
        refine us_icmp_ne hR dX8_nameNumber_25 49 (by decide) (fun c7 => ?_) (fun c7 => ?_)
        · rw [if_neg c7] at ho
          refine us_iincC hR dX8_nameNumber_49 rfl (Nat.le_of_ble_eq_true rfl) (c := 1) (by decide) ?_
          refine us_goto hR dX8_nameNumber_52 3 (by decide) ?_
          exact ih3 l2 l3 (l4 + 1)  s Ia _ _ hPa hFa ho
        · rw [if_pos c7] at ho
          refine us_aload_n hR dX8_nameNumber_28 rfl ?_
          refine us_aload_n hR dX8_nameNumber_29 rfl ?_
          refine us_getR hR dX8_nameNumber_30 fR_9_26 (ev_k1 hE) rfl (ev_r_1_3 hE) ?_
          refine us_iload hR dX8_nameNumber_33 rfl ?_
          refine us_callV hR dX8_nameNumber_35 (y := 6002) (by decide +kernel) (by decide) (J := i6002) rfl rfl rfl rfl (ev_rk hE (by decide)) rfl (Nat.le_of_ble_eq_true rfl) (Nat.zero_le _) (Nat.zero_le _) ?_
          refine cR_get hE hPa 3 (by decide) ?_
          refine us_iload_n hR dX8_nameNumber_38 rfl ?_
          refine us_iload_n hR dX8_nameNumber_39 rfl ?_
          refine us_callS hR dX8_nameNumber_40 (y := 9010) (by decide +kernel) (by decide) (J := i9010) rfl rfl rfl rfl (rest := _) (Nat.le_of_ble_eq_true rfl) (Nat.zero_le _) (Nat.zero_le _) ?_
          obtain ⟨r9, hr9⟩ := bP_ex ho
          replace ho := bP_go ho hr9
          refine sp_9010 hE hPa  hr9 (fun hb9 => ?_)
          refine us_if_eq hR dX8_nameNumber_43 49 (by decide) (fun c10 => ?_) (fun c10 => ?_)
          · rw [if_pos c10] at ho
            refine us_iincC hR dX8_nameNumber_49 rfl (Nat.le_of_ble_eq_true rfl) (c := 1) (by decide) ?_
            refine us_goto hR dX8_nameNumber_52 3 (by decide) ?_
            exact ih3 l2 l3 (l4 + 1)  s Ia _ _ hPa hFa ho
          · rw [if_neg c10] at ho
            refine us_iload hR dX8_nameNumber_46 rfl ?_
            refine us_iret hR dX8_nameNumber_48 rfl rfl ?_
            cases ho
            exact h2 _ hPa hFa
  refine us_iconstC hR dX8_nameNumber_0 (c := 0) (by decide) ?_
  refine us_istore hR dX8_nameNumber_1 (Nat.le_of_ble_eq_true rfl) ?_
  exact h9009_L3 _ x1 x2 0  s I _ _ hP hF ho
def f_9005_J70  (l2 : Int32) (l3 : Int64) (l5 : Int32) (k0 : Int32) (s : Sx) : Option (Sx × Int32) :=
  bS (f_9004 k0 l3.toInt32 l2 s) fun s1 =>
  some (s1, l5)
def f_9005_J56  (l2 : Int32) (l3 : Int64) (l5 : Int32) (s : Sx) : Option (Sx × Int32) :=
  if (lg_cmp l3 2147483647) ≤ 0 then
    f_9005_J70 l2 l3 l5 3 s
  else
    f_9005_J70 l2 l3 l5 2 s
def f_9005_L5  : Nat → Int32 → Int64 → Int32 → Sx → Option (Sx × Int32)
  | 0, _, _, _, _ => none
  | n + 1, l2, l3, l5, s =>
    if (nI (s.1 25).length) ≤ l5 then
      f_9005_J56 l2 l3 l5 s
    else
      if (f_9014 (xg (s.1 25) l5) s) = 0 then
        f_9005_J56 l2 l3 l5 s
      else
        f_9005_L5 n l2 (if 2147483648 < (((l3 * 10) + (xg (s.1 25) l5).toInt64) - 48) then 2147483648 else (((l3 * 10) + (xg (s.1 25) l5).toInt64) - 48)) (l5 + 1) s
def f_9005 (x1 : Int32) (s : Sx) : Option (Sx × Int32) :=
  f_9005_L5 400 x1 0 x1 s
theorem sp_9005 {d : Nat} {G : ab_G} {ad : Nat → Nat} {I : Nat → Nat → Int32} {s : Sx} {P : ab_Pq} {X : ab_Xq} (hE : EV G ad) (hP : Rep I ad s) {x1 : Int32}  {o : Sx × Int32} (ho : f_9005 x1 s = some o) (h : ∀ I1, Rep I1 ad o.1 → FrE ad I I1 → P (gW G I1) (some (.int o.2))) : ab_Gam (d + 3) 9005 [.ref (ad 1), .ref (ad (6 + 25)), .int x1] (gW G I) P X := by
  have h2 := h
  have hF : FrE ad I I := FrE_rfl
  unfold f_9005 at ho
  refine ab_enter (I := i9005) rfl (Nat.le_of_ble_eq_true rfl) (fun R hR => ?_)
  have h9005_J70 : ∀ (l2 : Int32) (l3 : Int64) (l5 : Int32) (k0 : Int32)  (s : Sx) (Ia : Nat → Nat → Int32) (bc bs : Nat) (hPa : Rep Ia ad s) (hFa : FrE ad I Ia) (ho : f_9005_J70 l2 l3 l5 k0 s = some o), R 70 [some (.ref (ad 1)), some (.ref (ad (6 + 25))), some (.int l2), some (.long l3), none, some (.int l5)] [.int k0, .ref (ad 1)] (gW G Ia) bc bs := by
    intro l2 l3 l5 k0  s Ia bc bs  hPa hFa ho
    unfold f_9005_J70 at ho
    refine us_lload_n hR dX8_scanNumber_70 rfl ?_
    refine us_l2i hR dX8_scanNumber_71 ?_
    refine us_iload_n hR dX8_scanNumber_72 rfl ?_
    refine us_callV hR dX8_scanNumber_73 (y := 9004) (by decide +kernel) (by decide) (J := i9004) rfl rfl rfl rfl (ev_k1 hE) rfl (Nat.le_of_ble_eq_true rfl) (Nat.zero_le _) (Nat.zero_le _) ?_
    refine sp_9004 hE hPa  (fun I1 s1 hs1 hP1 hF1 => ?_)
    rw [← hs1, bS_eq] at ho
    have hF1 := hFa.tr hF1
    refine us_iload hR dX8_scanNumber_76 rfl ?_
    refine us_iret hR dX8_scanNumber_78 rfl rfl ?_
    cases ho
    exact h2 _ hP1 hF1
  have h9005_J56 : ∀ (l2 : Int32) (l3 : Int64) (l5 : Int32)  (s : Sx) (Ia : Nat → Nat → Int32) (bc bs : Nat) (hPa : Rep Ia ad s) (hFa : FrE ad I Ia) (ho : f_9005_J56 l2 l3 l5 s = some o), R 56 [some (.ref (ad 1)), some (.ref (ad (6 + 25))), some (.int l2), some (.long l3), none, some (.int l5)] [] (gW G Ia) bc bs := by
    intro l2 l3 l5  s Ia bc bs  hPa hFa ho
    unfold f_9005_J56 at ho
    refine us_aload_n hR dX8_scanNumber_56 rfl ?_
    refine us_lload_n hR dX8_scanNumber_57 rfl ?_
    refine us_ldc2_w hR dX8_scanNumber_58 (v := 2147483647) (by decide +kernel) ?_
    refine us_lcmp hR dX8_scanNumber_61 ?_
    refine us_if_le hR dX8_scanNumber_62 69 (by decide) (fun c2 => ?_) (fun c2 => ?_)
    · rw [if_pos c2] at ho
      refine us_iconstC hR dX8_scanNumber_69 (c := 3) (by decide) ?_
      exact h9005_J70 l2 l3 l5 3  s Ia _ _ hPa hFa ho
    · rw [if_neg c2] at ho
      refine us_iconstC hR dX8_scanNumber_65 (c := 2) (by decide) ?_
      refine us_goto hR dX8_scanNumber_66 70 (by decide) ?_
      exact h9005_J70 l2 l3 l5 2  s Ia _ _ hPa hFa ho
  have h9005_L5 : ∀ (n : Nat) (l2 : Int32) (l3 : Int64) (l5 : Int32)  (s : Sx) (Ia : Nat → Nat → Int32) (bc bs : Nat) (hPa : Rep Ia ad s) (hFa : FrE ad I Ia) (ho : f_9005_L5 n l2 l3 l5 s = some o), R 5 [some (.ref (ad 1)), some (.ref (ad (6 + 25))), some (.int l2), some (.long l3), none, some (.int l5)] [] (gW G Ia) bc bs := by
    intro n
    induction n with
    | zero => intro l2 l3 l5  s Ia bc bs  hPa hFa ho; exact absurd ho (by intro hc; cases hc)
    | succ n5 ih5 =>
      intro l2 l3 l5  s Ia bc bs  hPa hFa ho
      rw [f_9005_L5] at ho
      refine us_iload hR dX8_scanNumber_5 rfl ?_
      refine us_aload_n hR dX8_scanNumber_7 rfl ?_
      refine us_callV hR dX8_scanNumber_8 (y := 6001) (by decide +kernel) (by decide) (J := i6001) rfl rfl rfl rfl (ev_rk hE (by decide)) rfl (Nat.le_of_ble_eq_true rfl) (Nat.zero_le _) (Nat.zero_le _) ?_
      refine cR_size hE hPa 25 (by decide) ?_
      refine us_icmp_ge hR dX8_scanNumber_11 56 (by decide) (fun c4 => ?_) (fun c4 => ?_)
      · rw [if_pos c4] at ho
        exact h9005_J56 l2 l3 l5  s Ia _ _ hPa hFa ho
      · rw [if_neg c4] at ho
        refine us_aload_n hR dX8_scanNumber_14 rfl ?_
        refine us_iload hR dX8_scanNumber_15 rfl ?_
        refine us_callV hR dX8_scanNumber_17 (y := 6002) (by decide +kernel) (by decide) (J := i6002) rfl rfl rfl rfl (ev_rk hE (by decide)) rfl (Nat.le_of_ble_eq_true rfl) (Nat.zero_le _) (Nat.zero_le _) ?_
        refine cR_get hE hPa 25 (by decide) ?_
        refine us_callS hR dX8_scanNumber_20 (y := 9014) (by decide +kernel) (by decide) (J := i9014) rfl rfl rfl rfl (rest := _) (Nat.le_of_ble_eq_true rfl) (Nat.zero_le _) (Nat.zero_le _) ?_
        refine sp_9014 hE hPa  (fun hb6 => ?_)
        refine us_if_eq hR dX8_scanNumber_23 56 (by decide) (fun c7 => ?_) (fun c7 => ?_)
        · rw [if_pos c7] at ho
          exact h9005_J56 l2 l3 l5  s Ia _ _ hPa hFa ho
        · rw [if_neg c7] at ho
          refine us_lload_n hR dX8_scanNumber_26 rfl ?_
          refine us_ldc2_w hR dX8_scanNumber_27 (v := 10) (by decide +kernel) ?_
          refine us_lmul hR dX8_scanNumber_30 ?_
          refine us_aload_n hR dX8_scanNumber_31 rfl ?_
          refine us_iload hR dX8_scanNumber_32 rfl ?_
          refine us_callV hR dX8_scanNumber_34 (y := 6002) (by decide +kernel) (by decide) (J := i6002) rfl rfl rfl rfl (ev_rk hE (by decide)) rfl (Nat.le_of_ble_eq_true rfl) (Nat.zero_le _) (Nat.zero_le _) ?_
          refine cR_get hE hPa 25 (by decide) ?_
          refine us_i2l hR dX8_scanNumber_37 ?_
          refine us_ladd hR dX8_scanNumber_38 ?_
          refine us_ldc2_w hR dX8_scanNumber_39 (v := 48) (by decide +kernel) ?_
          refine us_lsub hR dX8_scanNumber_42 ?_
          refine us_ldc2_w hR dX8_scanNumber_43 (v := 2147483648) (by decide +kernel) ?_
          refine us_math3 hR dX8_scanNumber_46 (by decide +kernel) (Nat.le_of_ble_eq_true rfl) ?_
          refine us_lstore_n hR dX8_scanNumber_49 (Nat.le_of_ble_eq_true rfl) ?_
          refine us_iincC hR dX8_scanNumber_50 rfl (Nat.le_of_ble_eq_true rfl) (c := 1) (by decide) ?_
          refine us_goto hR dX8_scanNumber_53 5 (by decide) ?_
          exact ih5 l2 (if 2147483648 < (((l3 * 10) + (xg (s.1 25) l5).toInt64) - 48) then 2147483648 else (((l3 * 10) + (xg (s.1 25) l5).toInt64) - 48)) (l5 + 1)  s Ia _ _ hPa hFa ho
  refine us_lconstC hR dX8_scanNumber_0 (c := 0) (by decide) ?_
  refine us_lstore_n hR dX8_scanNumber_1 (Nat.le_of_ble_eq_true rfl) ?_
  refine us_iload_n hR dX8_scanNumber_2 rfl ?_
  refine us_istore hR dX8_scanNumber_3 (Nat.le_of_ble_eq_true rfl) ?_
  exact h9005_L5 _ x1 0 x1  s I _ _ hP hF ho
def f_9006_J27  (l2 : Int32) (l3 : Int32) (s : Sx) : Option (Sx × Int32) :=
  bP (f_9007 l2 (l3 - l2) s) fun r1 =>
  if r1 = 4 then
    bO (f_9009 l2 (l3 - l2) s) fun s4 r4 =>
    bS (f_9004 r1 r4 l2 s4) fun s5 =>
    some (s5, l3)
  else
    bS (f_9004 r1 0 l2 s) fun s3 =>
    some (s3, l3)
def f_9006_L2  : Nat → Int32 → Int32 → Sx → Option (Sx × Int32)
  | 0, _, _, _ => none
  | n + 1, l2, l3, s =>
    if (nI (s.1 25).length) ≤ l3 then
      f_9006_J27 l2 l3 s
    else
      if (f_9015 (xg (s.1 25) l3) s) = 0 then
        f_9006_J27 l2 l3 s
      else
        f_9006_L2 n l2 (l3 + 1) s
def f_9006 (x1 : Int32) (s : Sx) : Option (Sx × Int32) :=
  f_9006_L2 400 x1 x1 s
theorem sp_9006 {d : Nat} {G : ab_G} {ad : Nat → Nat} {I : Nat → Nat → Int32} {s : Sx} {P : ab_Pq} {X : ab_Xq} (hE : EV G ad) (hP : Rep I ad s) {x1 : Int32}  {o : Sx × Int32} (ho : f_9006 x1 s = some o) (h : ∀ I1, Rep I1 ad o.1 → FrE ad I I1 → P (gW G I1) (some (.int o.2))) : ab_Gam (d + 4) 9006 [.ref (ad 1), .ref (ad (6 + 25)), .int x1] (gW G I) P X := by
  have h2 := h
  have hF : FrE ad I I := FrE_rfl
  unfold f_9006 at ho
  refine ab_enter (I := i9006) rfl (Nat.le_of_ble_eq_true rfl) (fun R hR => ?_)
  have h9006_J27 : ∀ (l2 : Int32) (l3 : Int32)  (s : Sx) (Ia : Nat → Nat → Int32) (bc bs : Nat) (hPa : Rep Ia ad s) (hFa : FrE ad I Ia) (ho : f_9006_J27 l2 l3 s = some o), R 27 [some (.ref (ad 1)), some (.ref (ad (6 + 25))), some (.int l2), some (.int l3), none] [] (gW G Ia) bc bs := by
    intro l2 l3  s Ia bc bs  hPa hFa ho
    unfold f_9006_J27 at ho
    refine us_aload_n hR dX8_scanWord_27 rfl ?_
    refine us_iload_n hR dX8_scanWord_28 rfl ?_
    refine us_iload_n hR dX8_scanWord_29 rfl ?_
    refine us_iload_n hR dX8_scanWord_30 rfl ?_
    refine us_isub hR dX8_scanWord_31 ?_
    refine us_callS hR dX8_scanWord_32 (y := 9007) (by decide +kernel) (by decide) (J := i9007) rfl rfl rfl rfl (rest := _) (Nat.le_of_ble_eq_true rfl) (Nat.zero_le _) (Nat.zero_le _) ?_
    obtain ⟨r1, hr1⟩ := bP_ex ho
    replace ho := bP_go ho hr1
    refine sp_9007 hE hPa  hr1 ?_
    refine us_istore hR dX8_scanWord_35 (Nat.le_of_ble_eq_true rfl) ?_
    refine us_aload_n hR dX8_scanWord_37 rfl ?_
    refine us_iload hR dX8_scanWord_38 rfl ?_
    refine us_iload hR dX8_scanWord_40 rfl ?_
    refine us_iconstC hR dX8_scanWord_42 (c := 4) (by decide) ?_
    refine us_icmp_ne hR dX8_scanWord_43 58 (by decide) (fun c2 => ?_) (fun c2 => ?_)
    · rw [if_neg c2] at ho
      refine us_iconstC hR dX8_scanWord_58 (c := 0) (by decide) ?_
      refine us_iload_n hR dX8_scanWord_59 rfl ?_
      refine us_callV hR dX8_scanWord_60 (y := 9004) (by decide +kernel) (by decide) (J := i9004) rfl rfl rfl rfl (ev_k1 hE) rfl (Nat.le_of_ble_eq_true rfl) (Nat.zero_le _) (Nat.zero_le _) ?_
      refine sp_9004 hE hPa  (fun I3 s3 hs3 hP3 hF3 => ?_)
      rw [← hs3, bS_eq] at ho
      have hF3 := hFa.tr hF3
      refine us_iload_n hR dX8_scanWord_63 rfl ?_
      refine us_iret hR dX8_scanWord_64 rfl rfl ?_
      cases ho
      exact h2 _ hP3 hF3
    · rw [if_pos c2] at ho
      refine us_aload_n hR dX8_scanWord_46 rfl ?_
      refine us_aload_n hR dX8_scanWord_47 rfl ?_
      refine us_iload_n hR dX8_scanWord_48 rfl ?_
      refine us_iload_n hR dX8_scanWord_49 rfl ?_
      refine us_iload_n hR dX8_scanWord_50 rfl ?_
      refine us_isub hR dX8_scanWord_51 ?_
      refine us_callV hR dX8_scanWord_52 (y := 9009) (by decide +kernel) (by decide) (J := i9009) rfl rfl rfl rfl (ev_k1 hE) rfl (Nat.le_of_ble_eq_true rfl) (Nat.zero_le _) (Nat.zero_le _) ?_
      obtain ⟨q4, hs4⟩ := bO_ex ho
      obtain ⟨s4, r4⟩ := q4
      replace ho := bO_go ho hs4
      refine sp_9009 hE hPa  hs4 (fun I4 hP4 hF4 => ?_)
      have hF4 := hFa.tr hF4
      refine us_goto hR dX8_scanWord_55 59 (by decide) ?_
      refine us_iload_n hR dX8_scanWord_59 rfl ?_
      refine us_callV hR dX8_scanWord_60 (y := 9004) (by decide +kernel) (by decide) (J := i9004) rfl rfl rfl rfl (ev_k1 hE) rfl (Nat.le_of_ble_eq_true rfl) (Nat.zero_le _) (Nat.zero_le _) ?_
      refine sp_9004 hE hP4  (fun I5 s5 hs5 hP5 hF5 => ?_)
      rw [← hs5, bS_eq] at ho
      have hF5 := hF4.tr hF5
      refine us_iload_n hR dX8_scanWord_63 rfl ?_
      refine us_iret hR dX8_scanWord_64 rfl rfl ?_
      cases ho
      exact h2 _ hP5 hF5
  have h9006_L2 : ∀ (n : Nat) (l2 : Int32) (l3 : Int32)  (s : Sx) (Ia : Nat → Nat → Int32) (bc bs : Nat) (hPa : Rep Ia ad s) (hFa : FrE ad I Ia) (ho : f_9006_L2 n l2 l3 s = some o), R 2 [some (.ref (ad 1)), some (.ref (ad (6 + 25))), some (.int l2), some (.int l3), none] [] (gW G Ia) bc bs := by
    intro n
    induction n with
    | zero => intro l2 l3  s Ia bc bs  hPa hFa ho; exact absurd ho (by intro hc; cases hc)
    | succ n2 ih2 =>
      intro l2 l3  s Ia bc bs  hPa hFa ho
      rw [f_9006_L2] at ho
      refine us_iload_n hR dX8_scanWord_2 rfl ?_
      refine us_aload_n hR dX8_scanWord_3 rfl ?_
      refine us_callV hR dX8_scanWord_4 (y := 6001) (by decide +kernel) (by decide) (J := i6001) rfl rfl rfl rfl (ev_rk hE (by decide)) rfl (Nat.le_of_ble_eq_true rfl) (Nat.zero_le _) (Nat.zero_le _) ?_
      refine cR_size hE hPa 25 (by decide) ?_
      refine us_icmp_ge hR dX8_scanWord_7 27 (by decide) (fun c7 => ?_) (fun c7 => ?_)
      · rw [if_pos c7] at ho
        exact h9006_J27 l2 l3  s Ia _ _ hPa hFa ho
      · rw [if_neg c7] at ho
        refine us_aload_n hR dX8_scanWord_10 rfl ?_
        refine us_iload_n hR dX8_scanWord_11 rfl ?_
        refine us_callV hR dX8_scanWord_12 (y := 6002) (by decide +kernel) (by decide) (J := i6002) rfl rfl rfl rfl (ev_rk hE (by decide)) rfl (Nat.le_of_ble_eq_true rfl) (Nat.zero_le _) (Nat.zero_le _) ?_
        refine cR_get hE hPa 25 (by decide) ?_
        refine us_callS hR dX8_scanWord_15 (y := 9015) (by decide +kernel) (by decide) (J := i9015) rfl rfl rfl rfl (rest := _) (Nat.le_of_ble_eq_true rfl) (Nat.zero_le _) (Nat.zero_le _) ?_
        refine sp_9015 hE hPa  (fun hb9 => ?_)
        refine us_if_eq hR dX8_scanWord_18 27 (by decide) (fun c10 => ?_) (fun c10 => ?_)
        · rw [if_pos c10] at ho
          exact h9006_J27 l2 l3  s Ia _ _ hPa hFa ho
        · rw [if_neg c10] at ho
          refine us_iincC hR dX8_scanWord_21 rfl (Nat.le_of_ble_eq_true rfl) (c := 1) (by decide) ?_
          refine us_goto hR dX8_scanWord_24 2 (by decide) ?_
          exact ih2 l2 (l3 + 1)  s Ia _ _ hPa hFa ho
  refine us_iload_n hR dX8_scanWord_0 rfl ?_
  refine us_istore_n hR dX8_scanWord_1 (Nat.le_of_ble_eq_true rfl) ?_
  exact h9006_L2 _ x1 x1  s I _ _ hP hF ho
def f_9011 (x1 : Int32) (s : Sx) : Sx × Int32 :=
  if (f_9012 (xg (s.1 25) x1) (xg (s.1 25) (x1 + 1)) s) = 1 then
    bS (f_9004 (f_9013 (xg (s.1 25) x1) s) 0 x1 s) fun s7 =>
    (s7, (x1 + 1))
  else
    bS (f_9004 (f_9012 (xg (s.1 25) x1) (xg (s.1 25) (x1 + 1)) s) 0 x1 s) fun s8 =>
    (s8, (x1 + 2))
theorem sp_9011 {d : Nat} {G : ab_G} {ad : Nat → Nat} {I : Nat → Nat → Int32} {s : Sx} {P : ab_Pq} {X : ab_Xq} (hE : EV G ad) (hP : Rep I ad s) {x1 : Int32}  (h : ∀ I1 o, o = f_9011 x1 s → Rep I1 ad o.1 → FrE ad I I1 → P (gW G I1) (some (.int o.2))) : ab_Gam (d + 3) 9011 [.ref (ad 1), .ref (ad (6 + 25)), .int x1] (gW G I) P X := by
  obtain ⟨o, ho⟩ : ∃ o, o = f_9011 x1 s := ⟨_, rfl⟩
  have h2 := fun I1 => h I1 o ho
  have hF : FrE ad I I := FrE_rfl
  unfold f_9011 at ho
  refine ab_enter (I := i9011) rfl (Nat.le_of_ble_eq_true rfl) (fun R hR => ?_)
  refine us_aload_n hR dX8_scanMark_0 rfl ?_
  refine us_iload_n hR dX8_scanMark_1 rfl ?_
  refine us_callV hR dX8_scanMark_2 (y := 6002) (by decide +kernel) (by decide) (J := i6002) rfl rfl rfl rfl (ev_rk hE (by decide)) rfl (Nat.le_of_ble_eq_true rfl) (Nat.zero_le _) (Nat.zero_le _) ?_
  refine cR_get hE hP 25 (by decide) ?_
  refine us_aload_n hR dX8_scanMark_5 rfl ?_
  refine us_iload_n hR dX8_scanMark_6 rfl ?_
  refine us_iconstC hR dX8_scanMark_7 (c := 1) (by decide) ?_
  refine us_iadd hR dX8_scanMark_8 ?_
  refine us_callV hR dX8_scanMark_9 (y := 6002) (by decide +kernel) (by decide) (J := i6002) rfl rfl rfl rfl (ev_rk hE (by decide)) rfl (Nat.le_of_ble_eq_true rfl) (Nat.zero_le _) (Nat.zero_le _) ?_
  refine cR_get hE hP 25 (by decide) ?_
  refine us_callS hR dX8_scanMark_12 (y := 9012) (by decide +kernel) (by decide) (J := i9012) rfl rfl rfl rfl (rest := _) (Nat.le_of_ble_eq_true rfl) (Nat.zero_le _) (Nat.zero_le _) ?_
  refine sp_9012 hE hP  ?_
  refine us_istore_n hR dX8_scanMark_15 (Nat.le_of_ble_eq_true rfl) ?_
  refine us_iload_n hR dX8_scanMark_16 rfl ?_
  refine us_iconstC hR dX8_scanMark_17 (c := 1) (by decide) ?_
  refine us_icmp_eq hR dX8_scanMark_18 32 (by decide) (fun c4 => ?_) (fun c4 => ?_)
  · rw [if_pos c4] at ho
    refine us_aload_n hR dX8_scanMark_32 rfl ?_
    refine us_aload_n hR dX8_scanMark_33 rfl ?_
    refine us_iload_n hR dX8_scanMark_34 rfl ?_
    refine us_callV hR dX8_scanMark_35 (y := 6002) (by decide +kernel) (by decide) (J := i6002) rfl rfl rfl rfl (ev_rk hE (by decide)) rfl (Nat.le_of_ble_eq_true rfl) (Nat.zero_le _) (Nat.zero_le _) ?_
    refine cR_get hE hP 25 (by decide) ?_
    refine us_callS hR dX8_scanMark_38 (y := 9013) (by decide +kernel) (by decide) (J := i9013) rfl rfl rfl rfl (rest := _) (Nat.le_of_ble_eq_true rfl) (Nat.zero_le _) (Nat.zero_le _) ?_
    refine sp_9013 hE hP  ?_
    refine us_iconstC hR dX8_scanMark_41 (c := 0) (by decide) ?_
    refine us_iload_n hR dX8_scanMark_42 rfl ?_
    refine us_callV hR dX8_scanMark_43 (y := 9004) (by decide +kernel) (by decide) (J := i9004) rfl rfl rfl rfl (ev_k1 hE) rfl (Nat.le_of_ble_eq_true rfl) (Nat.zero_le _) (Nat.zero_le _) ?_
    refine sp_9004 hE hP  (fun I7 s7 hs7 hP7 hF7 => ?_)
    rw [← hs7, bS_eq] at ho
    have hF7 := hF.tr hF7
    refine us_iload_n hR dX8_scanMark_46 rfl ?_
    refine us_iconstC hR dX8_scanMark_47 (c := 1) (by decide) ?_
    refine us_iadd hR dX8_scanMark_48 ?_
    refine us_iret hR dX8_scanMark_49 rfl rfl ?_
    subst ho
    exact h2 _ hP7 hF7
  · rw [if_neg c4] at ho
    refine us_aload_n hR dX8_scanMark_21 rfl ?_
    refine us_iload_n hR dX8_scanMark_22 rfl ?_
    refine us_iconstC hR dX8_scanMark_23 (c := 0) (by decide) ?_
    refine us_iload_n hR dX8_scanMark_24 rfl ?_
    refine us_callV hR dX8_scanMark_25 (y := 9004) (by decide +kernel) (by decide) (J := i9004) rfl rfl rfl rfl (ev_k1 hE) rfl (Nat.le_of_ble_eq_true rfl) (Nat.zero_le _) (Nat.zero_le _) ?_
    refine sp_9004 hE hP  (fun I8 s8 hs8 hP8 hF8 => ?_)
    rw [← hs8, bS_eq] at ho
    have hF8 := hF.tr hF8
    refine us_iload_n hR dX8_scanMark_28 rfl ?_
    refine us_iconstC hR dX8_scanMark_29 (c := 2) (by decide) ?_
    refine us_iadd hR dX8_scanMark_30 ?_
    refine us_iret hR dX8_scanMark_31 rfl rfl ?_
    subst ho
    exact h2 _ hP8 hF8
def f_9001_J130  (l2 : Int32) (l3 : Int32) (s : Sx) : Option Sx :=
  bS (f_9004 0 0 (nI (s.1 25).length) s) fun s2 =>
  some s2
def f_9001_L39  : Nat → Int32 → Int32 → Sx → Option Sx
  | 0, _, _, _ => none
  | n + 1, l2, l3, s =>
    if 300 ≤ l3 then
      f_9001_J130 l2 l3 s
    else
      if (nI (s.1 25).length) ≤ l2 then
        f_9001_J130 l2 l3 s
      else
        if (xg (s.1 25) l2) = 32 then
          f_9001_L39 n (l2 + 1) (l3 + 1) s
        else
          if (xg (s.1 25) l2) = 10 then
            f_9001_L39 n (l2 + 1) (l3 + 1) s
          else
            if (f_9014 (xg (s.1 25) l2) s) = 0 then
              if (f_9015 (xg (s.1 25) l2) s) = 0 then
                bT (f_9011 l2 s) fun s13 r13 =>
                f_9001_L39 n r13 (l3 + 1) s13
              else
                bO (f_9006 l2 s) fun s14 r14 =>
                f_9001_L39 n r14 (l3 + 1) s14
            else
              bO (f_9005 l2 s) fun s15 r15 =>
              f_9001_L39 n r15 (l3 + 1) s15
def f_9001  (s : Sx) : Option Sx :=
  bS (sB s 0 []) fun s16 =>
  bS (sB s16 1 []) fun s17 =>
  bS (sB s17 2 []) fun s18 =>
  bS (sB s18 3 []) fun s19 =>
  bS (sB s19 4 []) fun s20 =>
  f_9001_L39 400 0 0 s20
theorem sp_9001 {d : Nat} {G : ab_G} {ad : Nat → Nat} {I : Nat → Nat → Int32} {s : Sx} {P : ab_Pq} {X : ab_Xq} (hE : EV G ad) (hP : Rep I ad s)   {o : Sx} (ho : f_9001 s = some o) (h : ∀ I1, Rep I1 ad o → FrE ad I I1 → P (gW G I1) none) : ab_Gam (d + 5) 9001 [.ref (ad 1), .ref (ad (6 + 25))] (gW G I) P X := by
  have h2 := h
  have hF : FrE ad I I := FrE_rfl
  unfold f_9001 at ho
  refine ab_enter (I := i9001) rfl (Nat.le_of_ble_eq_true rfl) (fun R hR => ?_)
  have h9001_J130 : ∀ (l2 : Int32) (l3 : Int32) (w4 : Option Value) (s : Sx) (Ia : Nat → Nat → Int32) (bc bs : Nat) (hPa : Rep Ia ad s) (hFa : FrE ad I Ia) (ho : f_9001_J130 l2 l3 s = some o), R 130 [some (.ref (ad 1)), some (.ref (ad (6 + 25))), some (.int l2), some (.int l3), w4] [] (gW G Ia) bc bs := by
    intro l2 l3 w4 s Ia bc bs  hPa hFa ho
    unfold f_9001_J130 at ho
    refine us_aload_n hR dX8_scan_130 rfl ?_
    refine us_iconstC hR dX8_scan_131 (c := 0) (by decide) ?_
    refine us_iconstC hR dX8_scan_132 (c := 0) (by decide) ?_
    refine us_aload_n hR dX8_scan_133 rfl ?_
    refine us_callV hR dX8_scan_134 (y := 6001) (by decide +kernel) (by decide) (J := i6001) rfl rfl rfl rfl (ev_rk hE (by decide)) rfl (Nat.le_of_ble_eq_true rfl) (Nat.zero_le _) (Nat.zero_le _) ?_
    refine cR_size hE hPa 25 (by decide) ?_
    refine us_callV hR dX8_scan_137 (y := 9004) (by decide +kernel) (by decide) (J := i9004) rfl rfl rfl rfl (ev_k1 hE) rfl (Nat.le_of_ble_eq_true rfl) (Nat.zero_le _) (Nat.zero_le _) ?_
    refine sp_9004 hE hPa  (fun I2 s2 hs2 hP2 hF2 => ?_)
    rw [← hs2, bS_eq] at ho
    have hF2 := hFa.tr hF2
    refine us_vret hR dX8_scan_140 rfl ?_
    cases ho
    exact h2 _ hP2 hF2
  have h9001_L39 : ∀ (n : Nat) (l2 : Int32) (l3 : Int32) (w4 : Option Value) (s : Sx) (Ia : Nat → Nat → Int32) (bc bs : Nat) (hPa : Rep Ia ad s) (hFa : FrE ad I Ia) (ho : f_9001_L39 n l2 l3 s = some o), R 39 [some (.ref (ad 1)), some (.ref (ad (6 + 25))), some (.int l2), some (.int l3), w4] [] (gW G Ia) bc bs := by
    intro n
    induction n with
    | zero => intro l2 l3 w4 s Ia bc bs  hPa hFa ho; exact absurd ho (by intro hc; cases hc)
    | succ n39 ih39 =>
      intro l2 l3 w4 s Ia bc bs  hPa hFa ho
      rw [f_9001_L39] at ho
      refine us_iload_n hR dX8_scan_39 rfl ?_
      refine us_sipushC hR dX8_scan_40 (c := 300) (by decide) ?_
      refine us_icmp_ge hR dX8_scan_43 130 (by decide) (fun c3 => ?_) (fun c3 => ?_)
      · rw [if_pos c3] at ho
        exact h9001_J130 l2 l3 _ s Ia _ _ hPa hFa ho
      · rw [if_neg c3] at ho
        refine us_iload_n hR dX8_scan_46 rfl ?_
        refine us_aload_n hR dX8_scan_47 rfl ?_
        refine us_callV hR dX8_scan_48 (y := 6001) (by decide +kernel) (by decide) (J := i6001) rfl rfl rfl rfl (ev_rk hE (by decide)) rfl (Nat.le_of_ble_eq_true rfl) (Nat.zero_le _) (Nat.zero_le _) ?_
        refine cR_size hE hPa 25 (by decide) ?_
        refine us_icmp_ge hR dX8_scan_51 130 (by decide) (fun c5 => ?_) (fun c5 => ?_)
        · rw [if_pos c5] at ho
          exact h9001_J130 l2 l3 _ s Ia _ _ hPa hFa ho
        · rw [if_neg c5] at ho
          refine us_aload_n hR dX8_scan_54 rfl ?_
          refine us_iload_n hR dX8_scan_55 rfl ?_
          refine us_callV hR dX8_scan_56 (y := 6002) (by decide +kernel) (by decide) (J := i6002) rfl rfl rfl rfl (ev_rk hE (by decide)) rfl (Nat.le_of_ble_eq_true rfl) (Nat.zero_le _) (Nat.zero_le _) ?_
          refine cR_get hE hPa 25 (by decide) ?_
          refine us_istore hR dX8_scan_59 (Nat.le_of_ble_eq_true rfl) ?_
          refine us_iload hR dX8_scan_61 rfl ?_
          refine us_bipushC hR dX8_scan_63 (c := 32) (by decide) ?_
          refine us_icmp_eq hR dX8_scan_65 75 (by decide) (fun c7 => ?_) (fun c7 => ?_)
          · rw [if_pos c7] at ho
            refine us_iincC hR dX8_scan_75 rfl (Nat.le_of_ble_eq_true rfl) (c := 1) (by decide) ?_
            refine us_goto hR dX8_scan_78 124 (by decide) ?_
            refine us_iincC hR dX8_scan_124 rfl (Nat.le_of_ble_eq_true rfl) (c := 1) (by decide) ?_
            refine us_goto hR dX8_scan_127 39 (by decide) ?_
            exact ih39 (l2 + 1) (l3 + 1) _ s Ia _ _ hPa hFa ho
          · rw [if_neg c7] at ho
            refine us_iload hR dX8_scan_68 rfl ?_
            refine us_bipushC hR dX8_scan_70 (c := 10) (by decide) ?_
            refine us_icmp_ne hR dX8_scan_72 81 (by decide) (fun c8 => ?_) (fun c8 => ?_)
            · rw [if_neg c8] at ho
              refine us_iload hR dX8_scan_81 rfl ?_
              refine us_callS hR dX8_scan_83 (y := 9014) (by decide +kernel) (by decide) (J := i9014) rfl rfl rfl rfl (rest := _) (Nat.le_of_ble_eq_true rfl) (Nat.zero_le _) (Nat.zero_le _) ?_
              refine sp_9014 hE hPa  (fun hb9 => ?_)
              refine us_if_eq hR dX8_scan_86 99 (by decide) (fun c10 => ?_) (fun c10 => ?_)
              · rw [if_pos c10] at ho
                refine us_iload hR dX8_scan_99 rfl ?_
                refine us_callS hR dX8_scan_101 (y := 9015) (by decide +kernel) (by decide) (J := i9015) rfl rfl rfl rfl (rest := _) (Nat.le_of_ble_eq_true rfl) (Nat.zero_le _) (Nat.zero_le _) ?_
                refine sp_9015 hE hPa  (fun hb11 => ?_)
                refine us_if_eq hR dX8_scan_104 117 (by decide) (fun c12 => ?_) (fun c12 => ?_)
                · rw [if_pos c12] at ho
                  refine us_aload_n hR dX8_scan_117 rfl ?_
                  refine us_aload_n hR dX8_scan_118 rfl ?_
                  refine us_iload_n hR dX8_scan_119 rfl ?_
                  refine us_callV hR dX8_scan_120 (y := 9011) (by decide +kernel) (by decide) (J := i9011) rfl rfl rfl rfl (ev_k1 hE) rfl (Nat.le_of_ble_eq_true rfl) (Nat.zero_le _) (Nat.zero_le _) ?_
                  refine sp_9011 hE hPa  (fun I13 q13 hs13 hP13 hF13 => ?_)
                  rw [← hs13] at ho
                  obtain ⟨s13, r13⟩ := q13
                  rw [bT_eq] at ho
                  have hF13 := hFa.tr hF13
                  refine us_istore_n hR dX8_scan_123 (Nat.le_of_ble_eq_true rfl) ?_
                  refine us_iincC hR dX8_scan_124 rfl (Nat.le_of_ble_eq_true rfl) (c := 1) (by decide) ?_
                  refine us_goto hR dX8_scan_127 39 (by decide) ?_
                  exact ih39 r13 (l3 + 1) _ s13 I13 _ _ hP13 hF13 ho
                · rw [if_neg c12] at ho
                  refine us_aload_n hR dX8_scan_107 rfl ?_
                  refine us_aload_n hR dX8_scan_108 rfl ?_
                  refine us_iload_n hR dX8_scan_109 rfl ?_
                  refine us_callV hR dX8_scan_110 (y := 9006) (by decide +kernel) (by decide) (J := i9006) rfl rfl rfl rfl (ev_k1 hE) rfl (Nat.le_of_ble_eq_true rfl) (Nat.zero_le _) (Nat.zero_le _) ?_
                  obtain ⟨q14, hs14⟩ := bO_ex ho
                  obtain ⟨s14, r14⟩ := q14
                  replace ho := bO_go ho hs14
                  refine sp_9006 hE hPa  hs14 (fun I14 hP14 hF14 => ?_)
                  have hF14 := hFa.tr hF14
                  refine us_istore_n hR dX8_scan_113 (Nat.le_of_ble_eq_true rfl) ?_
                  refine us_goto hR dX8_scan_114 124 (by decide) ?_
                  refine us_iincC hR dX8_scan_124 rfl (Nat.le_of_ble_eq_true rfl) (c := 1) (by decide) ?_
                  refine us_goto hR dX8_scan_127 39 (by decide) ?_
                  exact ih39 r14 (l3 + 1) _ s14 I14 _ _ hP14 hF14 ho
              · rw [if_neg c10] at ho
                refine us_aload_n hR dX8_scan_89 rfl ?_
                refine us_aload_n hR dX8_scan_90 rfl ?_
                refine us_iload_n hR dX8_scan_91 rfl ?_
                refine us_callV hR dX8_scan_92 (y := 9005) (by decide +kernel) (by decide) (J := i9005) rfl rfl rfl rfl (ev_k1 hE) rfl (Nat.le_of_ble_eq_true rfl) (Nat.zero_le _) (Nat.zero_le _) ?_
                obtain ⟨q15, hs15⟩ := bO_ex ho
                obtain ⟨s15, r15⟩ := q15
                replace ho := bO_go ho hs15
                refine sp_9005 hE hPa  hs15 (fun I15 hP15 hF15 => ?_)
                have hF15 := hFa.tr hF15
                refine us_istore_n hR dX8_scan_95 (Nat.le_of_ble_eq_true rfl) ?_
                refine us_goto hR dX8_scan_96 124 (by decide) ?_
                refine us_iincC hR dX8_scan_124 rfl (Nat.le_of_ble_eq_true rfl) (c := 1) (by decide) ?_
                refine us_goto hR dX8_scan_127 39 (by decide) ?_
                exact ih39 r15 (l3 + 1) _ s15 I15 _ _ hP15 hF15 ho
            · rw [if_pos c8] at ho
              refine us_iincC hR dX8_scan_75 rfl (Nat.le_of_ble_eq_true rfl) (c := 1) (by decide) ?_
              refine us_goto hR dX8_scan_78 124 (by decide) ?_
              refine us_iincC hR dX8_scan_124 rfl (Nat.le_of_ble_eq_true rfl) (c := 1) (by decide) ?_
              refine us_goto hR dX8_scan_127 39 (by decide) ?_
              exact ih39 (l2 + 1) (l3 + 1) _ s Ia _ _ hPa hFa ho
  refine us_aload_n hR dX8_scan_0 rfl ?_
  refine us_getR hR dX8_scan_1 fR_9_14 (ev_k1 hE) rfl (ev_r_1_0 hE) ?_
  refine us_callV hR dX8_scan_4 (y := 6008) (by decide +kernel) (by decide) (J := i6008) rfl rfl rfl rfl (ev_rk hE (by decide)) rfl (Nat.le_of_ble_eq_true rfl) (Nat.zero_le _) (Nat.zero_le _) ?_
  refine cR_empty hE hP 0 (by decide) (fun I16 s16 hs16 hP16 hF16 => ?_)
  rw [← hs16, bS_eq] at ho
  have hF16 := hF.tr hF16
  refine us_aload_n hR dX8_scan_7 rfl ?_
  refine us_getR hR dX8_scan_8 fR_9_20 (ev_k1 hE) rfl (ev_r_1_1 hE) ?_
  refine us_callV hR dX8_scan_11 (y := 6008) (by decide +kernel) (by decide) (J := i6008) rfl rfl rfl rfl (ev_rk hE (by decide)) rfl (Nat.le_of_ble_eq_true rfl) (Nat.zero_le _) (Nat.zero_le _) ?_
  refine cR_empty hE hP16 1 (by decide) (fun I17 s17 hs17 hP17 hF17 => ?_)
  rw [← hs17, bS_eq] at ho
  have hF17 := hF16.tr hF17
  refine us_aload_n hR dX8_scan_14 rfl ?_
  refine us_getR hR dX8_scan_15 fR_9_23 (ev_k1 hE) rfl (ev_r_1_2 hE) ?_
  refine us_callV hR dX8_scan_18 (y := 6008) (by decide +kernel) (by decide) (J := i6008) rfl rfl rfl rfl (ev_rk hE (by decide)) rfl (Nat.le_of_ble_eq_true rfl) (Nat.zero_le _) (Nat.zero_le _) ?_
  refine cR_empty hE hP17 2 (by decide) (fun I18 s18 hs18 hP18 hF18 => ?_)
  rw [← hs18, bS_eq] at ho
  have hF18 := hF17.tr hF18
  refine us_aload_n hR dX8_scan_21 rfl ?_
  refine us_getR hR dX8_scan_22 fR_9_26 (ev_k1 hE) rfl (ev_r_1_3 hE) ?_
  refine us_callV hR dX8_scan_25 (y := 6008) (by decide +kernel) (by decide) (J := i6008) rfl rfl rfl rfl (ev_rk hE (by decide)) rfl (Nat.le_of_ble_eq_true rfl) (Nat.zero_le _) (Nat.zero_le _) ?_
  refine cR_empty hE hP18 3 (by decide) (fun I19 s19 hs19 hP19 hF19 => ?_)
  rw [← hs19, bS_eq] at ho
  have hF19 := hF18.tr hF19
  refine us_aload_n hR dX8_scan_28 rfl ?_
  refine us_getR hR dX8_scan_29 fR_9_29 (ev_k1 hE) rfl (ev_r_1_4 hE) ?_
  refine us_callV hR dX8_scan_32 (y := 6008) (by decide +kernel) (by decide) (J := i6008) rfl rfl rfl rfl (ev_rk hE (by decide)) rfl (Nat.le_of_ble_eq_true rfl) (Nat.zero_le _) (Nat.zero_le _) ?_
  refine cR_empty hE hP19 4 (by decide) (fun I20 s20 hs20 hP20 hF20 => ?_)
  rw [← hs20, bS_eq] at ho
  have hF20 := hF19.tr hF20
  refine us_iconstC hR dX8_scan_35 (c := 0) (by decide) ?_
  refine us_istore_n hR dX8_scan_36 (Nat.le_of_ble_eq_true rfl) ?_
  refine us_iconstC hR dX8_scan_37 (c := 0) (by decide) ?_
  refine us_istore_n hR dX8_scan_38 (Nat.le_of_ble_eq_true rfl) ?_
  exact h9001_L39 _ 0 0 _ s20 I20 _ _ hP20 hF20 ho
