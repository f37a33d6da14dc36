/-! shadows: the reference -/
def f_12025  (s : Mx) : Option Int32 :=
  if (mf s 35) = 0 then
    some (-1)
  else
    gd (vi ((mf s 35) - 1) 100) <|
    some (mg s 20 ((mf s 35) - 1))
theorem sp_12025 {d : Nat} {G : ab_G} {ad : Nat → Nat} {I : Nat → Nat → Int32} {s : Mx} {P : ab_Pq} {X : ab_Xq} (hE : EM G ad) (hP : RepM I ad s)   {o : Int32} (ho : f_12025 s = some o) (h : P (gW G I) (some (.int o))) : ab_Gam (d + 1) 12025 [.ref (ad 0)] (gW G I) P X := by
  have h2 := h
  have hF : FrM ad I I := FrM_rfl
  unfold f_12025 at ho
  refine ab_enter (I := i12025) rfl (Nat.le_of_ble_eq_true rfl) (fun R hR => ?_)
  refine us_aload_n hR dX11_top_0 rfl ?_
  refine us_getIx hR dX11_top_1 fR_12_275 hE.2.1 rfl (RepM_f hP 35) ?_
  refine us_if_ne hR dX11_top_4 11 (by decide) (fun c1 => ?_) (fun c1 => ?_)
  · rw [if_neg c1] at ho
    refine us_aload_n hR dX11_top_11 rfl ?_
    refine us_getR hR dX11_top_12 fR_12_68 hE.2.1 rfl (em_r_36 hE) ?_
    refine us_aload_n hR dX11_top_15 rfl ?_
    refine us_getIx hR dX11_top_16 fR_12_275 hE.2.1 rfl (RepM_f hP 35) ?_
    refine us_iconstC hR dX11_top_19 (c := 1) (by decide) ?_
    refine us_isub hR dX11_top_20 ?_
    have hg := gd_c ho
    rw [gd_e hg] at ho
    refine us_ialoadM hE hP (em_q_36 hE) hR dX11_top_21 hg ?_
    refine us_iret hR dX11_top_22 rfl rfl ?_
    cases ho
    exact h2
  · rw [if_pos c1] at ho
    refine us_iconstC hR dX11_top_7 (c := (-1)) (by decide) ?_
    refine us_goto hR dX11_top_8 22 (by decide) ?_
    refine us_iret hR dX11_top_22 rfl rfl ?_
    cases ho
    exact h2
def f_12026  (s : Mx) : Mx × Int32 :=
  if (mf s 33) = 8 then
    bT (f_12020 4 s) fun s3 r3 =>
    (s3, r3)
  else
    bS (mp s 33 ((mf s 33) + 1)) fun s2 =>
    (s2, 1)
theorem sp_12026 {d : Nat} {G : ab_G} {ad : Nat → Nat} {I : Nat → Nat → Int32} {s : Mx} {P : ab_Pq} {X : ab_Xq} (hE : EM G ad) (hP : RepM I ad s)   (h : ∀ I1 o, o = f_12026 s → (o.2 = 0 ∨ o.2 = 1) → RepM I1 ad o.1 → FrM ad I I1 → P (gW G I1) (some (.int o.2))) : ab_Gam (d + 2) 12026 [.ref (ad 0)] (gW G I) P X := by
  obtain ⟨o, ho⟩ : ∃ o, o = f_12026 s := ⟨_, rfl⟩
  have h2 := fun I1 => h I1 o ho
  have hF : FrM ad I I := FrM_rfl
  unfold f_12026 at ho
  refine ab_enter (I := i12026) rfl (Nat.le_of_ble_eq_true rfl) (fun R hR => ?_)
  refine us_aload_n hR dX11_rises_0 rfl ?_
  refine us_getIx hR dX11_rises_1 fR_12_278 hE.2.1 rfl (RepM_f hP 33) ?_
  refine us_bipushC hR dX11_rises_4 (c := 8) (by decide) ?_
  refine us_icmp_ne hR dX11_rises_6 15 (by decide) (fun c1 => ?_) (fun c1 => ?_)
  · rw [if_neg c1] at ho
    refine us_aload_n hR dX11_rises_15 rfl ?_
    refine us_dup hR dX11_rises_16 rfl ?_
    refine us_getIx hR dX11_rises_17 fR_12_278 hE.2.1 rfl (RepM_f hP 33) ?_
    refine us_iconstC hR dX11_rises_20 (c := 1) (by decide) ?_
    refine us_iadd hR dX11_rises_21 ?_
    refine us_putIM hE hP 33 hR dX11_rises_22 fR_12_278 (Or.inl rfl) rfl rfl (fun I2 s2 hs2 hP2 hF2 => ?_)
    rw [← hs2, bS_eq] at ho
    have hF2 := hF.tr hF2
    refine us_iconstC hR dX11_rises_25 (c := 1) (by decide) ?_
    refine us_iret hR dX11_rises_26 rfl (nar01 (Or.inr rfl)) ?_
    subst ho
    exact h2 _ (Or.inr rfl) hP2 hF2
  · rw [if_pos c1] at ho
    refine us_aload_n hR dX11_rises_9 rfl ?_
    refine us_iconstC hR dX11_rises_10 (c := 4) (by decide) ?_
    refine us_callV hR dX11_rises_11 (y := 12020) (by decide +kernel) (by decide) (J := i12020) rfl rfl rfl rfl hE.2.1 rfl (Nat.le_of_ble_eq_true rfl) (Nat.zero_le _) (Nat.zero_le _) ?_
    refine sp_12020 hE hP  (fun I3 q3 hs3 hb3 hP3 hF3 => ?_)
    rw [← hs3] at ho
    obtain ⟨s3, r3⟩ := q3
    rw [bT_eq] at ho
    have hF3 := hF.tr hF3
    refine us_iret hR dX11_rises_14 rfl (nar01 hb3) ?_
    subst ho
    exact h2 _ hb3 hP3 hF3
def f_12027_L16  : Nat → Int32 → Int32 → Int32 → Int32 → Int32 → Int32 → Mx → Option Int32
  | 0, _, _, _, _, _, _, _ => none
  | n + 1, l1, l2, l3, l4, l5, l6, s =>
    if l2 ≤ l6 then
      gd (l5 = 0 ∨ l5 = 1) <|
      some l5
    else
      if l5 = 0 then
        gd (l5 = 0 ∨ l5 = 1) <|
        some l5
      else
        gd (vi (l1 + l6) 300) <|
        gd (vi (l3 + l6) 300) <|
        if (mg s 3 (l1 + l6)) = (mg s 3 (l3 + l6)) then
          f_12027_L16 n l1 l2 l3 l4 1 (l6 + 1) s
        else
          f_12027_L16 n l1 l2 l3 l4 0 (l6 + 1) s
def f_12027 (x0 : Int32) (x1 : Int32) (x2 : Int32) (x3 : Int32) (s : Mx) : Option Int32 :=
  if x1 = x3 then
    f_12027_L16 1000 x0 x1 x2 x3 1 0 s
  else
    f_12027_L16 1000 x0 x1 x2 x3 0 0 s
theorem sp_12027 {d : Nat} {G : ab_G} {ad : Nat → Nat} {I : Nat → Nat → Int32} {s : Mx} {P : ab_Pq} {X : ab_Xq} (hE : EM G ad) (hP : RepM I ad s) {x0 : Int32} {x1 : Int32} {x2 : Int32} {x3 : Int32}  {o : Int32} (ho : f_12027 x0 x1 x2 x3 s = some o) (h : (o = 0 ∨ o = 1) → P (gW G I) (some (.int o))) : ab_Gam (d + 1) 12027 [.ref (ad 0), .int x0, .int x1, .int x2, .int x3] (gW G I) P X := by
  have h2 := h
  have hF : FrM ad I I := FrM_rfl
  unfold f_12027 at ho
  refine ab_enter (I := i12027) rfl (Nat.le_of_ble_eq_true rfl) (fun R hR => ?_)
  have h12027_L16 : ∀ (n : Nat) (l1 : Int32) (l2 : Int32) (l3 : Int32) (l4 : Int32) (l5 : Int32) (l6 : Int32)  (bc bs : Nat) (ho : f_12027_L16 n l1 l2 l3 l4 l5 l6 s = some o), R 16 [some (.ref (ad 0)), some (.int l1), some (.int l2), some (.int l3), some (.int l4), some (.int l5), some (.int l6)] [] (gW G I) bc bs := by
    intro n
    induction n with
    | zero => intro l1 l2 l3 l4 l5 l6  bc bs  ho; exact absurd ho (by intro hc; cases hc)
    | succ n16 ih16 =>
      intro l1 l2 l3 l4 l5 l6  bc bs  ho
      rw [f_12027_L16] at ho
      refine us_iload hR dX11_isName_16 rfl ?_
      refine us_iload_n hR dX11_isName_18 rfl ?_
      refine us_icmp_ge hR dX11_isName_19 61 (by decide) (fun c1 => ?_) (fun c1 => ?_)
      · rw [if_pos c1] at ho
        refine us_iload hR dX11_isName_61 rfl ?_
        have hg := gd_c ho
        rw [gd_e hg] at ho
        refine us_iret hR dX11_isName_63 rfl (nar01 hg) ?_
        cases ho
        exact h2 hg 
      · rw [if_neg c1] at ho
        refine us_iload hR dX11_isName_22 rfl ?_
        refine us_if_eq hR dX11_isName_24 61 (by decide) (fun c2 => ?_) (fun c2 => ?_)
        · rw [if_pos c2] at ho
          refine us_iload hR dX11_isName_61 rfl ?_
          have hg := gd_c ho
          rw [gd_e hg] at ho
          refine us_iret hR dX11_isName_63 rfl (nar01 hg) ?_
          cases ho
          exact h2 hg 
        · rw [if_neg c2] at ho
          refine us_aload_n hR dX11_isName_27 rfl ?_
          refine us_getR hR dX11_isName_28 fR_12_16 hE.2.1 rfl (em_r_3 hE) ?_
          refine us_iload_n hR dX11_isName_31 rfl ?_
          refine us_iload hR dX11_isName_32 rfl ?_
          refine us_iadd hR dX11_isName_34 ?_
          have hg := gd_c ho
          rw [gd_e hg] at ho
          refine us_caloadM hE hP (em_q_3 hE) hR dX11_isName_35 hg ?_
          refine us_aload_n hR dX11_isName_36 rfl ?_
          refine us_getR hR dX11_isName_37 fR_12_16 hE.2.1 rfl (em_r_3 hE) ?_
          refine us_iload_n hR dX11_isName_40 rfl ?_
          refine us_iload hR dX11_isName_41 rfl ?_
          refine us_iadd hR dX11_isName_43 ?_
          have hg := gd_c ho
          rw [gd_e hg] at ho
          refine us_caloadM hE hP (em_q_3 hE) hR dX11_isName_44 hg ?_
          refine us_icmp_ne hR dX11_isName_45 52 (by decide) (fun c3 => ?_) (fun c3 => ?_)
          · rw [if_neg c3] at ho
            refine us_iconstC hR dX11_isName_52 (c := 0) (by decide) ?_
            refine us_istore hR dX11_isName_53 (Nat.le_of_ble_eq_true rfl) ?_
            refine us_iincC hR dX11_isName_55 rfl (Nat.le_of_ble_eq_true rfl) (c := 1) (by decide) ?_
            refine us_goto hR dX11_isName_58 16 (by decide) ?_
            exact ih16 l1 l2 l3 l4 0 (l6 + 1)  _ _ ho
          · rw [if_pos c3] at ho
            refine us_iconstC hR dX11_isName_48 (c := 1) (by decide) ?_
            refine us_goto hR dX11_isName_49 53 (by decide) ?_
            refine us_istore hR dX11_isName_53 (Nat.le_of_ble_eq_true rfl) ?_
            refine us_iincC hR dX11_isName_55 rfl (Nat.le_of_ble_eq_true rfl) (c := 1) (by decide) ?_
            refine us_goto hR dX11_isName_58 16 (by decide) ?_
            exact ih16 l1 l2 l3 l4 1 (l6 + 1)  _ _ ho
  refine us_iload_n hR dX11_isName_0 rfl ?_
  refine us_iload hR dX11_isName_1 rfl ?_
  refine us_icmp_ne hR dX11_isName_3 10 (by decide) (fun c4 => ?_) (fun c4 => ?_)
  · rw [if_neg c4] at ho
    refine us_iconstC hR dX11_isName_10 (c := 0) (by decide) ?_
    refine us_istore hR dX11_isName_11 (Nat.le_of_ble_eq_true rfl) ?_
    refine us_iconstC hR dX11_isName_13 (c := 0) (by decide) ?_
    refine us_istore hR dX11_isName_14 (Nat.le_of_ble_eq_true rfl) ?_
    exact h12027_L16 _ x0 x1 x2 x3 0 0  _ _ ho
  · rw [if_pos c4] at ho
    refine us_iconstC hR dX11_isName_6 (c := 1) (by decide) ?_
    refine us_goto hR dX11_isName_7 11 (by decide) ?_
    refine us_istore hR dX11_isName_11 (Nat.le_of_ble_eq_true rfl) ?_
    refine us_iconstC hR dX11_isName_13 (c := 0) (by decide) ?_
    refine us_istore hR dX11_isName_14 (Nat.le_of_ble_eq_true rfl) ?_
    exact h12027_L16 _ x0 x1 x2 x3 1 0  _ _ ho
def f_12028_L4  : Nat → Int32 → Int32 → Mx → Option Int32
  | 0, _, _, _ => none
  | n + 1, l1, l2, s =>
    gd (vi (mf s 34) 2) <|
    if (mg s 9 (mf s 34)) ≤ l2 then
      some l1
    else
      gd (vi ((8 * (mf s 34)) + l2) 16) <|
      gd (vi ((8 * (mf s 34)) + l2) 16) <|
      bP (f_12027 (mg s 10 ((8 * (mf s 34)) + l2)) (mg s 11 ((8 * (mf s 34)) + l2)) (mf s 6) ((mf s 7) - (mf s 6)) s) fun r2 =>
      if r2 = 0 then
        f_12028_L4 n l1 (l2 + 1) s
      else
        f_12028_L4 n l2 (l2 + 1) s
def f_12028  (s : Mx) : Option Int32 :=
  f_12028_L4 1000 (-1) 0 s
theorem sp_12028 {d : Nat} {G : ab_G} {ad : Nat → Nat} {I : Nat → Nat → Int32} {s : Mx} {P : ab_Pq} {X : ab_Xq} (hE : EM G ad) (hP : RepM I ad s)   {o : Int32} (ho : f_12028 s = some o) (h : P (gW G I) (some (.int o))) : ab_Gam (d + 2) 12028 [.ref (ad 0)] (gW G I) P X := by
  have h2 := h
  have hF : FrM ad I I := FrM_rfl
  unfold f_12028 at ho
  refine ab_enter (I := i12028) rfl (Nat.le_of_ble_eq_true rfl) (fun R hR => ?_)
  have h12028_L4 : ∀ (n : Nat) (l1 : Int32) (l2 : Int32) (w3 : Option Value) (bc bs : Nat) (ho : f_12028_L4 n l1 l2 s = some o), R 4 [some (.ref (ad 0)), some (.int l1), some (.int l2), w3] [] (gW G I) bc bs := by
    intro n
    induction n with
    | zero => intro l1 l2 w3 bc bs  ho; exact absurd ho (by intro hc; cases hc)
    | succ n4 ih4 =>
      intro l1 l2 w3 bc bs  ho
      rw [f_12028_L4] at ho
      refine us_iload_n hR dX11_known_4 rfl ?_
      refine us_aload_n hR dX11_known_5 rfl ?_
      refine us_getR hR dX11_known_6 fR_12_35 hE.2.1 rfl (em_r_19 hE) ?_
      refine us_aload_n hR dX11_known_9 rfl ?_
      refine us_getIx hR dX11_known_10 fR_12_285 hE.2.1 rfl (RepM_f hP 34) ?_
      have hg := gd_c ho
      rw [gd_e hg] at ho
      refine us_ialoadM hE hP (em_q_19 hE) hR dX11_known_13 hg ?_
      refine us_icmp_ge hR dX11_known_14 71 (by decide) (fun c1 => ?_) (fun c1 => ?_)
      · rw [if_pos c1] at ho
        refine us_iload_n hR dX11_known_71 rfl ?_
        refine us_iret hR dX11_known_72 rfl rfl ?_
        cases ho
        exact h2
      · rw [if_neg c1] at ho
        refine us_bipushC hR dX11_known_17 (c := 8) (by decide) ?_
        refine us_aload_n hR dX11_known_19 rfl ?_
        refine us_getIx hR dX11_known_20 fR_12_285 hE.2.1 rfl (RepM_f hP 34) ?_
        refine us_imul hR dX11_known_23 ?_
        refine us_iload_n hR dX11_known_24 rfl ?_
        refine us_iadd hR dX11_known_25 ?_
        refine us_istore_n hR dX11_known_26 (Nat.le_of_ble_eq_true rfl) ?_
        refine us_aload_n hR dX11_known_27 rfl ?_
        refine us_aload_n hR dX11_known_28 rfl ?_
        refine us_getR hR dX11_known_29 fR_12_38 hE.2.1 rfl (em_r_20 hE) ?_
        refine us_iload_n hR dX11_known_32 rfl ?_
        have hg := gd_c ho
        rw [gd_e hg] at ho
        refine us_ialoadM hE hP (em_q_20 hE) hR dX11_known_33 hg ?_
        refine us_aload_n hR dX11_known_34 rfl ?_
        refine us_getR hR dX11_known_35 fR_12_41 hE.2.1 rfl (em_r_21 hE) ?_
        refine us_iload_n hR dX11_known_38 rfl ?_
        have hg := gd_c ho
        rw [gd_e hg] at ho
        refine us_ialoadM hE hP (em_q_21 hE) hR dX11_known_39 hg ?_
        refine us_aload_n hR dX11_known_40 rfl ?_
        refine us_getIx hR dX11_known_41 fR_12_219 hE.2.1 rfl (RepM_f hP 6) ?_
        refine us_aload_n hR dX11_known_44 rfl ?_
        refine us_getIx hR dX11_known_45 fR_12_199 hE.2.1 rfl (RepM_f hP 7) ?_
        refine us_aload_n hR dX11_known_48 rfl ?_
        refine us_getIx hR dX11_known_49 fR_12_219 hE.2.1 rfl (RepM_f hP 6) ?_
        refine us_isub hR dX11_known_52 ?_
        refine us_callV hR dX11_known_53 (y := 12027) (by decide +kernel) (by decide) (J := i12027) rfl rfl rfl rfl hE.2.1 rfl (Nat.le_of_ble_eq_true rfl) (Nat.zero_le _) (Nat.zero_le _) ?_
        obtain ⟨r2, hr2⟩ := bP_ex ho
        replace ho := bP_go ho hr2
        refine sp_12027 hE hP  hr2 (fun hb2 => ?_)
        refine us_if_eq hR dX11_known_56 63 (by decide) (fun c3 => ?_) (fun c3 => ?_)
        · rw [if_pos c3] at ho
          refine us_iload_n hR dX11_known_63 rfl ?_
          refine us_istore_n hR dX11_known_64 (Nat.le_of_ble_eq_true rfl) ?_
          refine us_iincC hR dX11_known_65 rfl (Nat.le_of_ble_eq_true rfl) (c := 1) (by decide) ?_
          refine us_goto hR dX11_known_68 4 (by decide) ?_
          exact ih4 l1 (l2 + 1) _ _ _ ho
        · rw [if_neg c3] at ho
          refine us_iload_n hR dX11_known_59 rfl ?_
          refine us_goto hR dX11_known_60 64 (by decide) ?_
          refine us_istore_n hR dX11_known_64 (Nat.le_of_ble_eq_true rfl) ?_
          refine us_iincC hR dX11_known_65 rfl (Nat.le_of_ble_eq_true rfl) (c := 1) (by decide) ?_
          refine us_goto hR dX11_known_68 4 (by decide) ?_
          exact ih4 l2 (l2 + 1) _ _ _ ho
  refine us_iconstC hR dX11_known_0 (c := (-1)) (by decide) ?_
  refine us_istore_n hR dX11_known_1 (Nat.le_of_ble_eq_true rfl) ?_
  refine us_iconstC hR dX11_known_2 (c := 0) (by decide) ?_
  refine us_istore_n hR dX11_known_3 (Nat.le_of_ble_eq_true rfl) ?_
  exact h12028_L4 _ (-1) 0 _ _ _ ho
def f_12029  (s : Mx) : Option (Mx × Int32) :=
  bP (f_12028 s) fun r1 =>
  if r1 = (-1) then
    gd (vi (mf s 34) 2) <|
    if (mg s 9 (mf s 34)) = 8 then
      some (s, r1)
    else
      gd (vi (mf s 34) 2) <|
      gd (vi ((8 * (mf s 34)) + (mg s 9 (mf s 34))) 16) <|
      bS (ms s 10 ((8 * (mf s 34)) + (mg s 9 (mf s 34))) (mf s 6)) fun s4 =>
      gd (vi (mf s4 34) 2) <|
      gd (vi ((8 * (mf s4 34)) + (mg s4 9 (mf s4 34))) 16) <|
      bS (ms s4 11 ((8 * (mf s4 34)) + (mg s4 9 (mf s4 34))) ((mf s4 7) - (mf s4 6))) fun s5 =>
      gd (vi (mf s5 34) 2) <|
      gd (vi (mf s5 34) 2) <|
      bS (ms s5 9 (mf s5 34) ((mg s5 9 (mf s5 34)) + 1)) fun s6 =>
      gd (vi (mf s6 34) 2) <|
      some (s6, ((mg s6 9 (mf s6 34)) - 1))
  else
    some (s, r1)
theorem sp_12029 {d : Nat} {G : ab_G} {ad : Nat → Nat} {I : Nat → Nat → Int32} {s : Mx} {P : ab_Pq} {X : ab_Xq} (hE : EM G ad) (hP : RepM I ad s)   {o : Mx × Int32} (ho : f_12029 s = some o) (h : ∀ I1, RepM I1 ad o.1 → FrM ad I I1 → P (gW G I1) (some (.int o.2))) : ab_Gam (d + 3) 12029 [.ref (ad 0)] (gW G I) P X := by
  have h2 := h
  have hF : FrM ad I I := FrM_rfl
  unfold f_12029 at ho
  refine ab_enter (I := i12029) rfl (Nat.le_of_ble_eq_true rfl) (fun R hR => ?_)
  refine us_aload_n hR dX11_variable_0 rfl ?_
  refine us_callV hR dX11_variable_1 (y := 12028) (by decide +kernel) (by decide) (J := i12028) rfl rfl rfl rfl hE.2.1 rfl (Nat.le_of_ble_eq_true rfl) (Nat.zero_le _) (Nat.zero_le _) ?_
  obtain ⟨r1, hr1⟩ := bP_ex ho
  replace ho := bP_go ho hr1
  refine sp_12028 hE hP  hr1 ?_
  refine us_istore_n hR dX11_variable_4 (Nat.le_of_ble_eq_true rfl) ?_
  refine us_iload_n hR dX11_variable_5 rfl ?_
  refine us_iconstC hR dX11_variable_6 (c := (-1)) (by decide) ?_
  refine us_icmp_ne hR dX11_variable_7 24 (by decide) (fun c2 => ?_) (fun c2 => ?_)
  · rw [if_neg c2] at ho
    refine us_iload_n hR dX11_variable_24 rfl ?_
    refine us_iret hR dX11_variable_25 rfl rfl ?_
    cases ho
    exact h2 _ hP hF
  · rw [if_pos c2] at ho
    refine us_aload_n hR dX11_variable_10 rfl ?_
    refine us_getR hR dX11_variable_11 fR_12_35 hE.2.1 rfl (em_r_19 hE) ?_
    refine us_aload_n hR dX11_variable_14 rfl ?_
    refine us_getIx hR dX11_variable_15 fR_12_285 hE.2.1 rfl (RepM_f hP 34) ?_
    have hg := gd_c ho
    rw [gd_e hg] at ho
    refine us_ialoadM hE hP (em_q_19 hE) hR dX11_variable_18 hg ?_
    refine us_bipushC hR dX11_variable_19 (c := 8) (by decide) ?_
    refine us_icmp_ne hR dX11_variable_21 26 (by decide) (fun c3 => ?_) (fun c3 => ?_)
    · rw [if_neg c3] at ho
      refine us_aload_n hR dX11_variable_26 rfl ?_
      refine us_getR hR dX11_variable_27 fR_12_38 hE.2.1 rfl (em_r_20 hE) ?_
      refine us_bipushC hR dX11_variable_30 (c := 8) (by decide) ?_
      refine us_aload_n hR dX11_variable_32 rfl ?_
      refine us_getIx hR dX11_variable_33 fR_12_285 hE.2.1 rfl (RepM_f hP 34) ?_
      refine us_imul hR dX11_variable_36 ?_
      refine us_aload_n hR dX11_variable_37 rfl ?_
      refine us_getR hR dX11_variable_38 fR_12_35 hE.2.1 rfl (em_r_19 hE) ?_
      refine us_aload_n hR dX11_variable_41 rfl ?_
      refine us_getIx hR dX11_variable_42 fR_12_285 hE.2.1 rfl (RepM_f hP 34) ?_
      have hg := gd_c ho
      rw [gd_e hg] at ho
      refine us_ialoadM hE hP (em_q_19 hE) hR dX11_variable_45 hg ?_
      refine us_iadd hR dX11_variable_46 ?_
      refine us_aload_n hR dX11_variable_47 rfl ?_
      refine us_getIx hR dX11_variable_48 fR_12_219 hE.2.1 rfl (RepM_f hP 6) ?_
      have hg := gd_c ho
      rw [gd_e hg] at ho
      refine us_iastoreM hE hP (em_q_20 hE) hR dX11_variable_51 hg (fun I4 s4 hs4 hP4 hF4 => ?_)
      rw [← hs4, bS_eq] at ho
      have hF4 := hF.tr hF4
      refine us_aload_n hR dX11_variable_52 rfl ?_
      refine us_getR hR dX11_variable_53 fR_12_41 hE.2.1 rfl (em_r_21 hE) ?_
      refine us_bipushC hR dX11_variable_56 (c := 8) (by decide) ?_
      refine us_aload_n hR dX11_variable_58 rfl ?_
      refine us_getIx hR dX11_variable_59 fR_12_285 hE.2.1 rfl (RepM_f hP4 34) ?_
      refine us_imul hR dX11_variable_62 ?_
      refine us_aload_n hR dX11_variable_63 rfl ?_
      refine us_getR hR dX11_variable_64 fR_12_35 hE.2.1 rfl (em_r_19 hE) ?_
      refine us_aload_n hR dX11_variable_67 rfl ?_
      refine us_getIx hR dX11_variable_68 fR_12_285 hE.2.1 rfl (RepM_f hP4 34) ?_
      have hg := gd_c ho
      rw [gd_e hg] at ho
      refine us_ialoadM hE hP4 (em_q_19 hE) hR dX11_variable_71 hg ?_
      refine us_iadd hR dX11_variable_72 ?_
      refine us_aload_n hR dX11_variable_73 rfl ?_
      refine us_getIx hR dX11_variable_74 fR_12_199 hE.2.1 rfl (RepM_f hP4 7) ?_
      refine us_aload_n hR dX11_variable_77 rfl ?_
      refine us_getIx hR dX11_variable_78 fR_12_219 hE.2.1 rfl (RepM_f hP4 6) ?_
      refine us_isub hR dX11_variable_81 ?_
      have hg := gd_c ho
      rw [gd_e hg] at ho
      refine us_iastoreM hE hP4 (em_q_21 hE) hR dX11_variable_82 hg (fun I5 s5 hs5 hP5 hF5 => ?_)
      rw [← hs5, bS_eq] at ho
      have hF5 := hF4.tr hF5
      refine us_aload_n hR dX11_variable_83 rfl ?_
      refine us_getR hR dX11_variable_84 fR_12_35 hE.2.1 rfl (em_r_19 hE) ?_
      refine us_aload_n hR dX11_variable_87 rfl ?_
      refine us_getIx hR dX11_variable_88 fR_12_285 hE.2.1 rfl (RepM_f hP5 34) ?_
      refine us_dup2 hR dX11_variable_91 rfl rfl ?_
      have hg := gd_c ho
      rw [gd_e hg] at ho
      refine us_ialoadM hE hP5 (em_q_19 hE) hR dX11_variable_92 hg ?_
      refine us_iconstC hR dX11_variable_93 (c := 1) (by decide) ?_
      refine us_iadd hR dX11_variable_94 ?_
      have hg := gd_c ho
      rw [gd_e hg] at ho
      refine us_iastoreM hE hP5 (em_q_19 hE) hR dX11_variable_95 hg (fun I6 s6 hs6 hP6 hF6 => ?_)
      rw [← hs6, bS_eq] at ho
      have hF6 := hF5.tr hF6
      refine us_aload_n hR dX11_variable_96 rfl ?_
      refine us_getR hR dX11_variable_97 fR_12_35 hE.2.1 rfl (em_r_19 hE) ?_
      refine us_aload_n hR dX11_variable_100 rfl ?_
      refine us_getIx hR dX11_variable_101 fR_12_285 hE.2.1 rfl (RepM_f hP6 34) ?_
      have hg := gd_c ho
      rw [gd_e hg] at ho
      refine us_ialoadM hE hP6 (em_q_19 hE) hR dX11_variable_104 hg ?_
      refine us_iconstC hR dX11_variable_105 (c := 1) (by decide) ?_
      refine us_isub hR dX11_variable_106 ?_
      refine us_iret hR dX11_variable_107 rfl rfl ?_
      cases ho
      exact h2 _ hP6 hF6
    · rw [if_pos c3] at ho
      refine us_iload_n hR dX11_variable_24 rfl ?_
      refine us_iret hR dX11_variable_25 rfl rfl ?_
      cases ho
      exact h2 _ hP hF
def f_12030_L10  : Nat → Int32 → Int32 → Int32 → Int32 → Mx → Option Int32
  | 0, _, _, _, _, _ => none
  | n + 1, l1, l2, l3, l4, s =>
    if l4 < 0 then
      some l3
    else
      gd (vi l4 40) <|
      gd (vi l4 40) <|
      bP (f_12027 (mg s 12 l4) (mg s 13 l4) l1 l2 s) fun r2 =>
      if r2 = 0 then
        f_12030_L10 n l1 l2 l3 (l4 + (-1)) s
      else
        f_12030_L10 n l1 l2 l4 (l4 + (-1)) s
def f_12030 (x0 : Int32) (x1 : Int32) (s : Mx) : Option Int32 :=
  f_12030_L10 1000 x0 x1 (-1) ((mf s 22) - 1) s
theorem sp_12030 {d : Nat} {G : ab_G} {ad : Nat → Nat} {I : Nat → Nat → Int32} {s : Mx} {P : ab_Pq} {X : ab_Xq} (hE : EM G ad) (hP : RepM I ad s) {x0 : Int32} {x1 : Int32}  {o : Int32} (ho : f_12030 x0 x1 s = some o) (h : P (gW G I) (some (.int o))) : ab_Gam (d + 2) 12030 [.ref (ad 0), .int x0, .int x1] (gW G I) P X := by
  have h2 := h
  have hF : FrM ad I I := FrM_rfl
  unfold f_12030 at ho
  refine ab_enter (I := i12030) rfl (Nat.le_of_ble_eq_true rfl) (fun R hR => ?_)
  have h12030_L10 : ∀ (n : Nat) (l1 : Int32) (l2 : Int32) (l3 : Int32) (l4 : Int32)  (bc bs : Nat) (ho : f_12030_L10 n l1 l2 l3 l4 s = some o), R 10 [some (.ref (ad 0)), some (.int l1), some (.int l2), some (.int l3), some (.int l4)] [] (gW G I) bc bs := by
    intro n
    induction n with
    | zero => intro l1 l2 l3 l4  bc bs  ho; exact absurd ho (by intro hc; cases hc)
    | succ n10 ih10 =>
      intro l1 l2 l3 l4  bc bs  ho
      rw [f_12030_L10] at ho
      refine us_iload hR dX11_defOf_10 rfl ?_
      refine us_if_lt hR dX11_defOf_12 51 (by decide) (fun c1 => ?_) (fun c1 => ?_)
      · rw [if_pos c1] at ho
        refine us_iload_n hR dX11_defOf_51 rfl ?_
        refine us_iret hR dX11_defOf_52 rfl rfl ?_
        cases ho
        exact h2
      · rw [if_neg c1] at ho
        refine us_aload_n hR dX11_defOf_15 rfl ?_
        refine us_aload_n hR dX11_defOf_16 rfl ?_
        refine us_getR hR dX11_defOf_17 fR_12_44 hE.2.1 rfl (em_r_23 hE) ?_
        refine us_iload hR dX11_defOf_20 rfl ?_
        have hg := gd_c ho
        rw [gd_e hg] at ho
        refine us_ialoadM hE hP (em_q_23 hE) hR dX11_defOf_22 hg ?_
        refine us_aload_n hR dX11_defOf_23 rfl ?_
        refine us_getR hR dX11_defOf_24 fR_12_47 hE.2.1 rfl (em_r_24 hE) ?_
        refine us_iload hR dX11_defOf_27 rfl ?_
        have hg := gd_c ho
        rw [gd_e hg] at ho
        refine us_ialoadM hE hP (em_q_24 hE) hR dX11_defOf_29 hg ?_
        refine us_iload_n hR dX11_defOf_30 rfl ?_
        refine us_iload_n hR dX11_defOf_31 rfl ?_
        refine us_callV hR dX11_defOf_32 (y := 12027) (by decide +kernel) (by decide) (J := i12027) rfl rfl rfl rfl hE.2.1 rfl (Nat.le_of_ble_eq_true rfl) (Nat.zero_le _) (Nat.zero_le _) ?_
        obtain ⟨r2, hr2⟩ := bP_ex ho
        replace ho := bP_go ho hr2
        refine sp_12027 hE hP  hr2 (fun hb2 => ?_)
        refine us_if_eq hR dX11_defOf_35 43 (by decide) (fun c3 => ?_) (fun c3 => ?_)
        · rw [if_pos c3] at ho
          refine us_iload_n hR dX11_defOf_43 rfl ?_
          refine us_istore_n hR dX11_defOf_44 (Nat.le_of_ble_eq_true rfl) ?_
          refine us_iincC hR dX11_defOf_45 rfl (Nat.le_of_ble_eq_true rfl) (c := (-1)) (by decide) ?_
          refine us_goto hR dX11_defOf_48 10 (by decide) ?_
          exact ih10 l1 l2 l3 (l4 + (-1))  _ _ ho
        · rw [if_neg c3] at ho
          refine us_iload hR dX11_defOf_38 rfl ?_
          refine us_goto hR dX11_defOf_40 44 (by decide) ?_
          refine us_istore_n hR dX11_defOf_44 (Nat.le_of_ble_eq_true rfl) ?_
          refine us_iincC hR dX11_defOf_45 rfl (Nat.le_of_ble_eq_true rfl) (c := (-1)) (by decide) ?_
          refine us_goto hR dX11_defOf_48 10 (by decide) ?_
          exact ih10 l1 l2 l4 (l4 + (-1))  _ _ ho
  refine us_iconstC hR dX11_defOf_0 (c := (-1)) (by decide) ?_
  refine us_istore_n hR dX11_defOf_1 (Nat.le_of_ble_eq_true rfl) ?_
  refine us_aload_n hR dX11_defOf_2 rfl ?_
  refine us_getIx hR dX11_defOf_3 fR_12_295 hE.2.1 rfl (RepM_f hP 22) ?_
  refine us_iconstC hR dX11_defOf_6 (c := 1) (by decide) ?_
  refine us_isub hR dX11_defOf_7 ?_
  refine us_istore hR dX11_defOf_8 (Nat.le_of_ble_eq_true rfl) ?_
  exact h12030_L10 _ x0 x1 (-1) ((mf s 22) - 1)  _ _ ho
def f_12031 (x0 : Int32) (s : Mx) : Int32 :=
  if x0 = 11 then
    5
  else if x0 = 12 then
    5
  else if x0 = 13 then
    6
  else if x0 = 14 then
    6
  else if x0 = 15 then
    6
  else if x0 = 16 then
    4
  else if x0 = 17 then
    4
  else if x0 = 18 then
    4
  else if x0 = 19 then
    4
  else if x0 = 20 then
    3
  else if x0 = 21 then
    3
  else if x0 = 22 then
    2
  else if x0 = 23 then
    1
  else
    0
theorem sp_12031 {d : Nat} {G : ab_G} {ad : Nat → Nat} {I : Nat → Nat → Int32} {s : Mx} {P : ab_Pq} {X : ab_Xq} (hE : EM G ad) (hP : RepM I ad s) {x0 : Int32}  (h : P (gW G I) (some (.int (f_12031 x0 s)))) : ab_Gam (d + 1) 12031 [.int x0] (gW G I) P X := by
  obtain ⟨o, ho⟩ : ∃ o, o = f_12031 x0 s := ⟨_, rfl⟩
  rw [← ho] at h
  have h2 := h
  have hF : FrM ad I I := FrM_rfl
  unfold f_12031 at ho
  refine ab_enter (I := i12031) rfl (Nat.le_of_ble_eq_true rfl) (fun R hR => ?_)
  refine us_iload_n hR dX11_level_0 rfl ?_
  refine us_tsw hR dX11_level_1 (fun c1 => ⟨by decide, ?_⟩) (by decide) ⟨fun c1 => ⟨by decide, ?_⟩, fun c1 => ⟨by decide, ?_⟩, fun c1 => ⟨by decide, ?_⟩, fun c1 => ⟨by decide, ?_⟩, fun c1 => ⟨by decide, ?_⟩, fun c1 => ⟨by decide, ?_⟩, fun c1 => ⟨by decide, ?_⟩, fun c1 => ⟨by decide, ?_⟩, fun c1 => ⟨by decide, ?_⟩, fun c1 => ⟨by decide, ?_⟩, fun c1 => ⟨by decide, ?_⟩, fun c1 => ⟨by decide, ?_⟩, fun c1 => ⟨by decide, ?_⟩, trivial⟩
  · rw [if_neg (i_sw_d (v := 11) c1 (by decide)), if_neg (i_sw_d (v := 12) c1 (by decide)), if_neg (i_sw_d (v := 13) c1 (by decide)), if_neg (i_sw_d (v := 14) c1 (by decide)), if_neg (i_sw_d (v := 15) c1 (by decide)), if_neg (i_sw_d (v := 16) c1 (by decide)), if_neg (i_sw_d (v := 17) c1 (by decide)), if_neg (i_sw_d (v := 18) c1 (by decide)), if_neg (i_sw_d (v := 19) c1 (by decide)), if_neg (i_sw_d (v := 20) c1 (by decide)), if_neg (i_sw_d (v := 21) c1 (by decide)), if_neg (i_sw_d (v := 22) c1 (by decide)), if_neg (i_sw_d (v := 23) c1 (by decide))] at ho
    refine us_iconstC hR dX11_level_81 (c := 0) (by decide) ?_
    refine us_iret hR dX11_level_82 rfl rfl ?_
    subst ho
    exact h2
  · rw [if_pos (i_sw (v := 11) c1)] at ho
    refine us_iconstC hR dX11_level_76 (c := 5) (by decide) ?_
    refine us_iret hR dX11_level_77 rfl rfl ?_
    subst ho
    exact h2
  · rw [if_neg (i_sw_x (v := 12) (w := 11) c1 (by decide)), if_pos (i_sw (v := 12) c1)] at ho
    refine us_iconstC hR dX11_level_76 (c := 5) (by decide) ?_
    refine us_iret hR dX11_level_77 rfl rfl ?_
    subst ho
    exact h2
  · rw [if_neg (i_sw_x (v := 13) (w := 11) c1 (by decide)), if_neg (i_sw_x (v := 13) (w := 12) c1 (by decide)), if_pos (i_sw (v := 13) c1)] at ho
    refine us_bipushC hR dX11_level_78 (c := 6) (by decide) ?_
    refine us_iret hR dX11_level_80 rfl rfl ?_
    subst ho
    exact h2
  · rw [if_neg (i_sw_x (v := 14) (w := 11) c1 (by decide)), if_neg (i_sw_x (v := 14) (w := 12) c1 (by decide)), if_neg (i_sw_x (v := 14) (w := 13) c1 (by decide)), if_pos (i_sw (v := 14) c1)] at ho
    refine us_bipushC hR dX11_level_78 (c := 6) (by decide) ?_
    refine us_iret hR dX11_level_80 rfl rfl ?_
    subst ho
    exact h2
  · rw [if_neg (i_sw_x (v := 15) (w := 11) c1 (by decide)), if_neg (i_sw_x (v := 15) (w := 12) c1 (by decide)), if_neg (i_sw_x (v := 15) (w := 13) c1 (by decide)), if_neg (i_sw_x (v := 15) (w := 14) c1 (by decide)), if_pos (i_sw (v := 15) c1)] at ho
    refine us_bipushC hR dX11_level_78 (c := 6) (by decide) ?_
    refine us_iret hR dX11_level_80 rfl rfl ?_
    subst ho
    exact h2
  · rw [if_neg (i_sw_x (v := 16) (w := 11) c1 (by decide)), if_neg (i_sw_x (v := 16) (w := 12) c1 (by decide)), if_neg (i_sw_x (v := 16) (w := 13) c1 (by decide)), if_neg (i_sw_x (v := 16) (w := 14) c1 (by decide)), if_neg (i_sw_x (v := 16) (w := 15) c1 (by decide)), if_pos (i_sw (v := 16) c1)] at ho
    refine us_iconstC hR dX11_level_74 (c := 4) (by decide) ?_
    refine us_iret hR dX11_level_75 rfl rfl ?_
    subst ho
    exact h2
  · rw [if_neg (i_sw_x (v := 17) (w := 11) c1 (by decide)), if_neg (i_sw_x (v := 17) (w := 12) c1 (by decide)), if_neg (i_sw_x (v := 17) (w := 13) c1 (by decide)), if_neg (i_sw_x (v := 17) (w := 14) c1 (by decide)), if_neg (i_sw_x (v := 17) (w := 15) c1 (by decide)), if_neg (i_sw_x (v := 17) (w := 16) c1 (by decide)), if_pos (i_sw (v := 17) c1)] at ho
    refine us_iconstC hR dX11_level_74 (c := 4) (by decide) ?_
    refine us_iret hR dX11_level_75 rfl rfl ?_
    subst ho
    exact h2
  · rw [if_neg (i_sw_x (v := 18) (w := 11) c1 (by decide)), if_neg (i_sw_x (v := 18) (w := 12) c1 (by decide)), if_neg (i_sw_x (v := 18) (w := 13) c1 (by decide)), if_neg (i_sw_x (v := 18) (w := 14) c1 (by decide)), if_neg (i_sw_x (v := 18) (w := 15) c1 (by decide)), if_neg (i_sw_x (v := 18) (w := 16) c1 (by decide)), if_neg (i_sw_x (v := 18) (w := 17) c1 (by decide)), if_pos (i_sw (v := 18) c1)] at ho
    refine us_iconstC hR dX11_level_74 (c := 4) (by decide) ?_
    refine us_iret hR dX11_level_75 rfl rfl ?_
    subst ho
    exact h2
  · rw [if_neg (i_sw_x (v := 19) (w := 11) c1 (by decide)), if_neg (i_sw_x (v := 19) (w := 12) c1 (by decide)), if_neg (i_sw_x (v := 19) (w := 13) c1 (by decide)), if_neg (i_sw_x (v := 19) (w := 14) c1 (by decide)), if_neg (i_sw_x (v := 19) (w := 15) c1 (by decide)), if_neg (i_sw_x (v := 19) (w := 16) c1 (by decide)), if_neg (i_sw_x (v := 19) (w := 17) c1 (by decide)), if_neg (i_sw_x (v := 19) (w := 18) c1 (by decide)), if_pos (i_sw (v := 19) c1)] at ho
    refine us_iconstC hR dX11_level_74 (c := 4) (by decide) ?_
    refine us_iret hR dX11_level_75 rfl rfl ?_
    subst ho
    exact h2
  · rw [if_neg (i_sw_x (v := 20) (w := 11) c1 (by decide)), if_neg (i_sw_x (v := 20) (w := 12) c1 (by decide)), if_neg (i_sw_x (v := 20) (w := 13) c1 (by decide)), if_neg (i_sw_x (v := 20) (w := 14) c1 (by decide)), if_neg (i_sw_x (v := 20) (w := 15) c1 (by decide)), if_neg (i_sw_x (v := 20) (w := 16) c1 (by decide)), if_neg (i_sw_x (v := 20) (w := 17) c1 (by decide)), if_neg (i_sw_x (v := 20) (w := 18) c1 (by decide)), if_neg (i_sw_x (v := 20) (w := 19) c1 (by decide)), if_pos (i_sw (v := 20) c1)] at ho
    refine us_iconstC hR dX11_level_72 (c := 3) (by decide) ?_
    refine us_iret hR dX11_level_73 rfl rfl ?_
    subst ho
    exact h2
  · rw [if_neg (i_sw_x (v := 21) (w := 11) c1 (by decide)), if_neg (i_sw_x (v := 21) (w := 12) c1 (by decide)), if_neg (i_sw_x (v := 21) (w := 13) c1 (by decide)), if_neg (i_sw_x (v := 21) (w := 14) c1 (by decide)), if_neg (i_sw_x (v := 21) (w := 15) c1 (by decide)), if_neg (i_sw_x (v := 21) (w := 16) c1 (by decide)), if_neg (i_sw_x (v := 21) (w := 17) c1 (by decide)), if_neg (i_sw_x (v := 21) (w := 18) c1 (by decide)), if_neg (i_sw_x (v := 21) (w := 19) c1 (by decide)), if_neg (i_sw_x (v := 21) (w := 20) c1 (by decide)), if_pos (i_sw (v := 21) c1)] at ho
    refine us_iconstC hR dX11_level_72 (c := 3) (by decide) ?_
    refine us_iret hR dX11_level_73 rfl rfl ?_
    subst ho
    exact h2
  · rw [if_neg (i_sw_x (v := 22) (w := 11) c1 (by decide)), if_neg (i_sw_x (v := 22) (w := 12) c1 (by decide)), if_neg (i_sw_x (v := 22) (w := 13) c1 (by decide)), if_neg (i_sw_x (v := 22) (w := 14) c1 (by decide)), if_neg (i_sw_x (v := 22) (w := 15) c1 (by decide)), if_neg (i_sw_x (v := 22) (w := 16) c1 (by decide)), if_neg (i_sw_x (v := 22) (w := 17) c1 (by decide)), if_neg (i_sw_x (v := 22) (w := 18) c1 (by decide)), if_neg (i_sw_x (v := 22) (w := 19) c1 (by decide)), if_neg (i_sw_x (v := 22) (w := 20) c1 (by decide)), if_neg (i_sw_x (v := 22) (w := 21) c1 (by decide)), if_pos (i_sw (v := 22) c1)] at ho
    refine us_iconstC hR dX11_level_70 (c := 2) (by decide) ?_
    refine us_iret hR dX11_level_71 rfl rfl ?_
    subst ho
    exact h2
  · rw [if_neg (i_sw_x (v := 23) (w := 11) c1 (by decide)), if_neg (i_sw_x (v := 23) (w := 12) c1 (by decide)), if_neg (i_sw_x (v := 23) (w := 13) c1 (by decide)), if_neg (i_sw_x (v := 23) (w := 14) c1 (by decide)), if_neg (i_sw_x (v := 23) (w := 15) c1 (by decide)), if_neg (i_sw_x (v := 23) (w := 16) c1 (by decide)), if_neg (i_sw_x (v := 23) (w := 17) c1 (by decide)), if_neg (i_sw_x (v := 23) (w := 18) c1 (by decide)), if_neg (i_sw_x (v := 23) (w := 19) c1 (by decide)), if_neg (i_sw_x (v := 23) (w := 20) c1 (by decide)), if_neg (i_sw_x (v := 23) (w := 21) c1 (by decide)), if_neg (i_sw_x (v := 23) (w := 22) c1 (by decide)), if_pos (i_sw (v := 23) c1)] at ho
    refine us_iconstC hR dX11_level_68 (c := 1) (by decide) ?_
    refine us_iret hR dX11_level_69 rfl rfl ?_
    subst ho
    exact h2
def f_12032_J66  (k0 : Int32 → Mx → Option Mx) (l1 : Int32) (s : Mx) : Option Mx :=
  bO (f_12021 8 0 s) fun s1 r1 =>
  gd (vi (mf s1 35) 100) <|
  gd (vi (mg s1 21 (mf s1 35)) 1200) <|
  bS (ms s1 5 (mg s1 21 (mf s1 35)) (mf s1 11)) fun s2 =>
  k0 l1 s2
def f_12032_L0  : Nat → Int32 → Mx → Option Mx
  | 0, _, _ => none
  | n + 1, l1, s =>
    bP (f_12025 s) fun r3 =>
    if r3 = (-1) then
      some s
    else
      bP (f_12025 s) fun r5 =>
      if 40 ≤ r5 then
        some s
      else
        bP (f_12025 s) fun r7 =>
        if (f_12031 r7 s) < l1 then
          some s
        else
          bS (mp s 35 ((mf s 35) - 1)) fun s10 =>
          gd (vi (mf s10 35) 100) <|
          if (mg s10 20 (mf s10 35)) = 22 then
            f_12032_J66 (f_12032_L0 n) l1 s10
          else
            gd (vi (mf s10 35) 100) <|
            if (mg s10 20 (mf s10 35)) = 23 then
              f_12032_J66 (f_12032_L0 n) l1 s10
            else
              gd (vi (mf s10 35) 100) <|
              bO (f_12021 5 (mg s10 20 (mf s10 35)) s10) fun s13 r13 =>
              f_12032_L0 n l1 s13
def f_12032 (x0 : Int32) (s : Mx) : Option Mx :=
  f_12032_L0 1000 x0 s
theorem sp_12032 {d : Nat} {G : ab_G} {ad : Nat → Nat} {I : Nat → Nat → Int32} {s : Mx} {P : ab_Pq} {X : ab_Xq} (hE : EM G ad) (hP : RepM I ad s) {x0 : Int32}  {o : Mx} (ho : f_12032 x0 s = some o) (h : ∀ I1, RepM I1 ad o → FrM ad I I1 → P (gW G I1) none) : ab_Gam (d + 2) 12032 [.ref (ad 0), .int x0] (gW G I) P X := by
  have h2 := h
  have hF : FrM ad I I := FrM_rfl
  unfold f_12032 at ho
  refine ab_enter (I := i12032) rfl (Nat.le_of_ble_eq_true rfl) (fun R hR => ?_)
  have h12032_L0 : ∀ (n : Nat) (l1 : Int32) (w2 : Option Value) (s : Mx) (Ia : Nat → Nat → Int32) (bc bs : Nat) (hPa : RepM Ia ad s) (hFa : FrM ad I Ia) (ho : f_12032_L0 n l1 s = some o), R 0 [some (.ref (ad 0)), some (.int l1), w2] [] (gW G Ia) bc bs := by
    intro n
    induction n with
    | zero => intro l1 w2 s Ia bc bs  hPa hFa ho; exact absurd ho (by intro hc; cases hc)
    | succ n0 ih0 =>
      have h12032_J66 : ∀ (l1 : Int32) (w2 : Option Value) (s : Mx) (Ia : Nat → Nat → Int32) (bc bs : Nat) (hPa : RepM Ia ad s) (hFa : FrM ad I Ia) (ho : f_12032_J66 (f_12032_L0 n0) l1 s = some o), R 66 [some (.ref (ad 0)), some (.int l1), w2] [] (gW G Ia) bc bs := by
        intro l1 w2 s Ia bc bs  hPa hFa ho
        unfold f_12032_J66 at ho
        refine us_aload_n hR dX11_ends_66 rfl ?_
        refine us_bipushC hR dX11_ends_67 (c := 8) (by decide) ?_
        refine us_iconstC hR dX11_ends_69 (c := 0) (by decide) ?_
        refine us_callV hR dX11_ends_70 (y := 12021) (by decide +kernel) (by decide) (J := i12021) rfl rfl rfl rfl hE.2.1 rfl (Nat.le_of_ble_eq_true rfl) (Nat.zero_le _) (Nat.zero_le _) ?_
        obtain ⟨q1, hs1⟩ := bO_ex ho
        obtain ⟨s1, r1⟩ := q1
        replace ho := bO_go ho hs1
        refine sp_12021 hE hPa  hs1 (fun I1 hP1 hF1 => ?_)
        have hF1 := hFa.tr hF1
        refine us_istore_n hR dX11_ends_73 (Nat.le_of_ble_eq_true rfl) ?_
        refine us_aload_n hR dX11_ends_74 rfl ?_
        refine us_getR hR dX11_ends_75 fR_12_23 hE.2.1 rfl (em_r_13 hE) ?_
        refine us_aload_n hR dX11_ends_78 rfl ?_
        refine us_getR hR dX11_ends_79 fR_12_71 hE.2.1 rfl (em_r_37 hE) ?_
        refine us_aload_n hR dX11_ends_82 rfl ?_
        refine us_getIx hR dX11_ends_83 fR_12_275 hE.2.1 rfl (RepM_f hP1 35) ?_
        have hg := gd_c ho
        rw [gd_e hg] at ho
        refine us_ialoadM hE hP1 (em_q_37 hE) hR dX11_ends_86 hg ?_
        refine us_aload_n hR dX11_ends_87 rfl ?_
        refine us_getIx hR dX11_ends_88 fR_12_260 hE.2.1 rfl (RepM_f hP1 11) ?_
        have hg := gd_c ho
        rw [gd_e hg] at ho
        refine us_iastoreM hE hP1 (em_q_13 hE) hR dX11_ends_91 hg (fun I2 s2 hs2 hP2 hF2 => ?_)
        rw [← hs2, bS_eq] at ho
        have hF2 := hF1.tr hF2
        refine us_goto hR dX11_ends_92 0 (by decide) ?_
        exact ih0 l1 _ s2 I2 _ _ hP2 hF2 ho
      intro l1 w2 s Ia bc bs  hPa hFa ho
      rw [f_12032_L0] at ho
      refine us_aload_n hR dX11_ends_0 rfl ?_
      refine us_callV hR dX11_ends_1 (y := 12025) (by decide +kernel) (by decide) (J := i12025) rfl rfl rfl rfl hE.2.1 rfl (Nat.le_of_ble_eq_true rfl) (Nat.zero_le _) (Nat.zero_le _) ?_
      obtain ⟨r3, hr3⟩ := bP_ex ho
      replace ho := bP_go ho hr3
      refine sp_12025 hE hPa  hr3 ?_
      refine us_iconstC hR dX11_ends_4 (c := (-1)) (by decide) ?_
      refine us_icmp_eq hR dX11_ends_5 113 (by decide) (fun c4 => ?_) (fun c4 => ?_)
      · rw [if_pos c4] at ho
        refine us_vret hR dX11_ends_113 rfl ?_
        cases ho
        exact h2 _ hPa hFa
      · rw [if_neg c4] at ho
        refine us_aload_n hR dX11_ends_8 rfl ?_
        refine us_callV hR dX11_ends_9 (y := 12025) (by decide +kernel) (by decide) (J := i12025) rfl rfl rfl rfl hE.2.1 rfl (Nat.le_of_ble_eq_true rfl) (Nat.zero_le _) (Nat.zero_le _) ?_
        obtain ⟨r5, hr5⟩ := bP_ex ho
        replace ho := bP_go ho hr5
        refine sp_12025 hE hPa  hr5 ?_
        refine us_bipushC hR dX11_ends_12 (c := 40) (by decide) ?_
        refine us_icmp_ge hR dX11_ends_14 113 (by decide) (fun c6 => ?_) (fun c6 => ?_)
        · rw [if_pos c6] at ho
          refine us_vret hR dX11_ends_113 rfl ?_
          cases ho
          exact h2 _ hPa hFa
        · rw [if_neg c6] at ho
          refine us_aload_n hR dX11_ends_17 rfl ?_
          refine us_callV hR dX11_ends_18 (y := 12025) (by decide +kernel) (by decide) (J := i12025) rfl rfl rfl rfl hE.2.1 rfl (Nat.le_of_ble_eq_true rfl) (Nat.zero_le _) (Nat.zero_le _) ?_
          obtain ⟨r7, hr7⟩ := bP_ex ho
          replace ho := bP_go ho hr7
          refine sp_12025 hE hPa  hr7 ?_
          refine us_callS hR dX11_ends_21 (y := 12031) (by decide +kernel) (by decide) (J := i12031) rfl rfl rfl rfl (rest := _) (Nat.le_of_ble_eq_true rfl) (Nat.zero_le _) (Nat.zero_le _) ?_
          refine sp_12031 hE hPa  ?_
          refine us_iload_n hR dX11_ends_24 rfl ?_
          refine us_icmp_lt hR dX11_ends_25 113 (by decide) (fun c9 => ?_) (fun c9 => ?_)
          · rw [if_pos c9] at ho
            refine us_vret hR dX11_ends_113 rfl ?_
            cases ho
            exact h2 _ hPa hFa
          · rw [if_neg c9] at ho
            refine us_aload_n hR dX11_ends_28 rfl ?_
            refine us_dup hR dX11_ends_29 rfl ?_
            refine us_getIx hR dX11_ends_30 fR_12_275 hE.2.1 rfl (RepM_f hPa 35) ?_
            refine us_iconstC hR dX11_ends_33 (c := 1) (by decide) ?_
            refine us_isub hR dX11_ends_34 ?_
            refine us_putIM hE hPa 35 hR dX11_ends_35 fR_12_275 (Or.inl rfl) rfl rfl (fun I10 s10 hs10 hP10 hF10 => ?_)
            rw [← hs10, bS_eq] at ho
            have hF10 := hFa.tr hF10
            refine us_aload_n hR dX11_ends_38 rfl ?_
            refine us_getR hR dX11_ends_39 fR_12_68 hE.2.1 rfl (em_r_36 hE) ?_
            refine us_aload_n hR dX11_ends_42 rfl ?_
            refine us_getIx hR dX11_ends_43 fR_12_275 hE.2.1 rfl (RepM_f hP10 35) ?_
            have hg := gd_c ho
            rw [gd_e hg] at ho
            refine us_ialoadM hE hP10 (em_q_36 hE) hR dX11_ends_46 hg ?_
            refine us_bipushC hR dX11_ends_47 (c := 22) (by decide) ?_
            refine us_icmp_eq hR dX11_ends_49 66 (by decide) (fun c11 => ?_) (fun c11 => ?_)
            · rw [if_pos c11] at ho
              exact h12032_J66 l1 _ s10 I10 _ _ hP10 hF10 ho
            · rw [if_neg c11] at ho
              refine us_aload_n hR dX11_ends_52 rfl ?_
              refine us_getR hR dX11_ends_53 fR_12_68 hE.2.1 rfl (em_r_36 hE) ?_
              refine us_aload_n hR dX11_ends_56 rfl ?_
              refine us_getIx hR dX11_ends_57 fR_12_275 hE.2.1 rfl (RepM_f hP10 35) ?_
              have hg := gd_c ho
              rw [gd_e hg] at ho
              refine us_ialoadM hE hP10 (em_q_36 hE) hR dX11_ends_60 hg ?_
              refine us_bipushC hR dX11_ends_61 (c := 23) (by decide) ?_
              refine us_icmp_ne hR dX11_ends_63 95 (by decide) (fun c12 => ?_) (fun c12 => ?_)
              · rw [if_neg c12] at ho
                refine us_aload_n hR dX11_ends_95 rfl ?_
                refine us_iconstC hR dX11_ends_96 (c := 5) (by decide) ?_
                refine us_aload_n hR dX11_ends_97 rfl ?_
                refine us_getR hR dX11_ends_98 fR_12_68 hE.2.1 rfl (em_r_36 hE) ?_
                refine us_aload_n hR dX11_ends_101 rfl ?_
                refine us_getIx hR dX11_ends_102 fR_12_275 hE.2.1 rfl (RepM_f hP10 35) ?_
                have hg := gd_c ho
                rw [gd_e hg] at ho
                refine us_ialoadM hE hP10 (em_q_36 hE) hR dX11_ends_105 hg ?_
                refine us_callV hR dX11_ends_106 (y := 12021) (by decide +kernel) (by decide) (J := i12021) rfl rfl rfl rfl hE.2.1 rfl (Nat.le_of_ble_eq_true rfl) (Nat.zero_le _) (Nat.zero_le _) ?_
                obtain ⟨q13, hs13⟩ := bO_ex ho
                obtain ⟨s13, r13⟩ := q13
                replace ho := bO_go ho hs13
                refine sp_12021 hE hP10  hs13 (fun I13 hP13 hF13 => ?_)
                have hF13 := hF10.tr hF13
                refine us_istore_n hR dX11_ends_109 (Nat.le_of_ble_eq_true rfl) ?_
                refine us_goto hR dX11_ends_110 0 (by decide) ?_
                exact ih0 l1 _ s13 I13 _ _ hP13 hF13 ho
              · rw [if_pos c12] at ho
                exact h12032_J66 l1 _ s10 I10 _ _ hP10 hF10 ho
  exact h12032_L0 _ x0 _ s I _ _ hP hF ho
def f_12033_L7  : Nat → Int32 → Mx → Option Int32
  | 0, _, _ => none
  | n + 1, l1, s =>
    gd (vi l1 100) <|
    if 40 ≤ (mg s 20 l1) then
      gd (vi l1 100) <|
      some (mg s 20 l1)
    else
      f_12033_L7 n (l1 + (-1)) s
def f_12033  (s : Mx) : Option Int32 :=
  f_12033_L7 1000 ((mf s 35) - 1) s
theorem sp_12033 {d : Nat} {G : ab_G} {ad : Nat → Nat} {I : Nat → Nat → Int32} {s : Mx} {P : ab_Pq} {X : ab_Xq} (hE : EM G ad) (hP : RepM I ad s)   {o : Int32} (ho : f_12033 s = some o) (h : P (gW G I) (some (.int o))) : ab_Gam (d + 1) 12033 [.ref (ad 0)] (gW G I) P X := by
  have h2 := h
  have hF : FrM ad I I := FrM_rfl
  unfold f_12033 at ho
  refine ab_enter (I := i12033) rfl (Nat.le_of_ble_eq_true rfl) (fun R hR => ?_)
  have h12033_L7 : ∀ (n : Nat) (l1 : Int32)  (bc bs : Nat) (ho : f_12033_L7 n l1 s = some o), R 7 [some (.ref (ad 0)), some (.int l1)] [] (gW G I) bc bs := by
    intro n
    induction n with
    | zero => intro l1  bc bs  ho; exact absurd ho (by intro hc; cases hc)
    | succ n7 ih7 =>
      intro l1  bc bs  ho
      rw [f_12033_L7] at ho
      refine us_aload_n hR dX11_around_7 rfl ?_
      refine us_getR hR dX11_around_8 fR_12_68 hE.2.1 rfl (em_r_36 hE) ?_
      refine us_iload_n hR dX11_around_11 rfl ?_
      have hg := gd_c ho
      rw [gd_e hg] at ho
      refine us_ialoadM hE hP (em_q_36 hE) hR dX11_around_12 hg ?_
      refine us_bipushC hR dX11_around_13 (c := 40) (by decide) ?_
      refine us_icmp_ge hR dX11_around_15 24 (by decide) (fun c1 => ?_) (fun c1 => ?_)
      · rw [if_pos c1] at ho
        refine us_aload_n hR dX11_around_24 rfl ?_
        refine us_getR hR dX11_around_25 fR_12_68 hE.2.1 rfl (em_r_36 hE) ?_
        refine us_iload_n hR dX11_around_28 rfl ?_
        have hg := gd_c ho
        rw [gd_e hg] at ho
        refine us_ialoadM hE hP (em_q_36 hE) hR dX11_around_29 hg ?_
        refine us_iret hR dX11_around_30 rfl rfl ?_
        cases ho
        exact h2
      · rw [if_neg c1] at ho
        refine us_iincC hR dX11_around_18 rfl (Nat.le_of_ble_eq_true rfl) (c := (-1)) (by decide) ?_
        refine us_goto hR dX11_around_21 7 (by decide) ?_
        exact ih7 (l1 + (-1))  _ _ ho
  refine us_aload_n hR dX11_around_0 rfl ?_
  refine us_getIx hR dX11_around_1 fR_12_275 hE.2.1 rfl (RepM_f hP 35) ?_
  refine us_iconstC hR dX11_around_4 (c := 1) (by decide) ?_
  refine us_isub hR dX11_around_5 ?_
  refine us_istore_n hR dX11_around_6 (Nat.le_of_ble_eq_true rfl) ?_
  exact h12033_L7 _ ((mf s 35) - 1)  _ _ ho
def f_12034_L0  : Nat → Mx → Option (Mx × Int32)
  | 0, _ => none
  | n + 1, s =>
    bP (f_12025 s) fun r1 =>
    if r1 = 40 then
      bS (mp s 35 ((mf s 35) - 1)) fun s14 =>
      bS (mp s14 33 ((mf s14 33) - 1)) fun s15 =>
      gd (vi (mf s15 35) 100) <|
      bO (f_12021 4 (mg s15 21 (mf s15 35)) s15) fun s16 r16 =>
      f_12034_L0 n  s16
    else
      bS (mp s 32 4) fun s3 =>
      bP (f_12025 s3) fun r4 =>
      if r4 = 48 then
        bS (mp s3 35 ((mf s3 35) - 1)) fun s11 =>
        bS (mp s11 33 ((mf s11 33) - 1)) fun s12 =>
        bS (mp s12 32 6) fun s13 =>
        some (s13, 1)
      else
        bP (f_12025 s3) fun r6 =>
        if r6 = 50 then
          bS (mp s3 35 ((mf s3 35) - 1)) fun s8 =>
          bO (f_12021 16 0 s8) fun s9 r9 =>
          bS (mp s9 32 14) fun s10 =>
          some (s10, 1)
        else
          some (s3, 1)
def f_12034  (s : Mx) : Option (Mx × Int32) :=
  f_12034_L0 1000  s
theorem sp_12034 {d : Nat} {G : ab_G} {ad : Nat → Nat} {I : Nat → Nat → Int32} {s : Mx} {P : ab_Pq} {X : ab_Xq} (hE : EM G ad) (hP : RepM I ad s)   {o : Mx × Int32} (ho : f_12034 s = some o) (h : ∀ I1, (o.2 = 0 ∨ o.2 = 1) → RepM I1 ad o.1 → FrM ad I I1 → P (gW G I1) (some (.int o.2))) : ab_Gam (d + 2) 12034 [.ref (ad 0)] (gW G I) P X := by
  have h2 := h
  have hF : FrM ad I I := FrM_rfl
  unfold f_12034 at ho
  refine ab_enter (I := i12034) rfl (Nat.le_of_ble_eq_true rfl) (fun R hR => ?_)
  have h12034_L0 : ∀ (n : Nat)  (w1 : Option Value) (s : Mx) (Ia : Nat → Nat → Int32) (bc bs : Nat) (hPa : RepM Ia ad s) (hFa : FrM ad I Ia) (ho : f_12034_L0 n  s = some o), R 0 [some (.ref (ad 0)), w1] [] (gW G Ia) bc bs := by
    intro n
    induction n with
    | zero => intro  w1 s Ia bc bs  hPa hFa ho; exact absurd ho (by intro hc; cases hc)
    | succ n0 ih0 =>
      intro  w1 s Ia bc bs  hPa hFa ho
      rw [f_12034_L0] at ho
      refine us_aload_n hR dX11_ended_0 rfl ?_
      refine us_callV hR dX11_ended_1 (y := 12025) (by decide +kernel) (by decide) (J := i12025) rfl rfl rfl rfl hE.2.1 rfl (Nat.le_of_ble_eq_true rfl) (Nat.zero_le _) (Nat.zero_le _) ?_
      obtain ⟨r1, hr1⟩ := bP_ex ho
      replace ho := bP_go ho hr1
      refine sp_12025 hE hPa  hr1 ?_
      refine us_bipushC hR dX11_ended_4 (c := 40) (by decide) ?_
      refine us_icmp_ne hR dX11_ended_6 47 (by decide) (fun c2 => ?_) (fun c2 => ?_)
      · rw [if_neg c2] at ho
        refine us_aload_n hR dX11_ended_47 rfl ?_
        refine us_iconstC hR dX11_ended_48 (c := 4) (by decide) ?_
        refine us_putIM hE hPa 32 hR dX11_ended_49 fR_12_266 (Or.inl rfl) rfl rfl (fun I3 s3 hs3 hP3 hF3 => ?_)
        rw [← hs3, bS_eq] at ho
        have hF3 := hFa.tr hF3
        refine us_aload_n hR dX11_ended_52 rfl ?_
        refine us_callV hR dX11_ended_53 (y := 12025) (by decide +kernel) (by decide) (J := i12025) rfl rfl rfl rfl hE.2.1 rfl (Nat.le_of_ble_eq_true rfl) (Nat.zero_le _) (Nat.zero_le _) ?_
        obtain ⟨r4, hr4⟩ := bP_ex ho
        replace ho := bP_go ho hr4
        refine sp_12025 hE hP3  hr4 ?_
        refine us_bipushC hR dX11_ended_56 (c := 48) (by decide) ?_
        refine us_icmp_ne hR dX11_ended_58 90 (by decide) (fun c5 => ?_) (fun c5 => ?_)
        · rw [if_neg c5] at ho
          refine us_aload_n hR dX11_ended_90 rfl ?_
          refine us_callV hR dX11_ended_91 (y := 12025) (by decide +kernel) (by decide) (J := i12025) rfl rfl rfl rfl hE.2.1 rfl (Nat.le_of_ble_eq_true rfl) (Nat.zero_le _) (Nat.zero_le _) ?_
          obtain ⟨r6, hr6⟩ := bP_ex ho
          replace ho := bP_go ho hr6
          refine sp_12025 hE hP3  hr6 ?_
          refine us_bipushC hR dX11_ended_94 (c := 50) (by decide) ?_
          refine us_icmp_ne hR dX11_ended_96 123 (by decide) (fun c7 => ?_) (fun c7 => ?_)
          · rw [if_neg c7] at ho
            refine us_iconstC hR dX11_ended_123 (c := 1) (by decide) ?_
            refine us_iret hR dX11_ended_124 rfl (nar01 (Or.inr rfl)) ?_
            cases ho
            exact h2 _ (Or.inr rfl) hP3 hF3
          · rw [if_pos c7] at ho
            refine us_aload_n hR dX11_ended_99 rfl ?_
            refine us_dup hR dX11_ended_100 rfl ?_
            refine us_getIx hR dX11_ended_101 fR_12_275 hE.2.1 rfl (RepM_f hP3 35) ?_
            refine us_iconstC hR dX11_ended_104 (c := 1) (by decide) ?_
            refine us_isub hR dX11_ended_105 ?_
            refine us_putIM hE hP3 35 hR dX11_ended_106 fR_12_275 (Or.inl rfl) rfl rfl (fun I8 s8 hs8 hP8 hF8 => ?_)
            rw [← hs8, bS_eq] at ho
            have hF8 := hF3.tr hF8
            refine us_aload_n hR dX11_ended_109 rfl ?_
            refine us_bipushC hR dX11_ended_110 (c := 16) (by decide) ?_
            refine us_iconstC hR dX11_ended_112 (c := 0) (by decide) ?_
            refine us_callV hR dX11_ended_113 (y := 12021) (by decide +kernel) (by decide) (J := i12021) rfl rfl rfl rfl hE.2.1 rfl (Nat.le_of_ble_eq_true rfl) (Nat.zero_le _) (Nat.zero_le _) ?_
            obtain ⟨q9, hs9⟩ := bO_ex ho
            obtain ⟨s9, r9⟩ := q9
            replace ho := bO_go ho hs9
            refine sp_12021 hE hP8  hs9 (fun I9 hP9 hF9 => ?_)
            have hF9 := hF8.tr hF9
            refine us_istore_n hR dX11_ended_116 (Nat.le_of_ble_eq_true rfl) ?_
            refine us_aload_n hR dX11_ended_117 rfl ?_
            refine us_bipushC hR dX11_ended_118 (c := 14) (by decide) ?_
            refine us_putIM hE hP9 32 hR dX11_ended_120 fR_12_266 (Or.inl rfl) rfl rfl (fun I10 s10 hs10 hP10 hF10 => ?_)
            rw [← hs10, bS_eq] at ho
            have hF10 := hF9.tr hF10
            refine us_iconstC hR dX11_ended_123 (c := 1) (by decide) ?_
            refine us_iret hR dX11_ended_124 rfl (nar01 (Or.inr rfl)) ?_
            cases ho
            exact h2 _ (Or.inr rfl) hP10 hF10
        · rw [if_pos c5] at ho
          refine us_aload_n hR dX11_ended_61 rfl ?_
          refine us_dup hR dX11_ended_62 rfl ?_
          refine us_getIx hR dX11_ended_63 fR_12_275 hE.2.1 rfl (RepM_f hP3 35) ?_
          refine us_iconstC hR dX11_ended_66 (c := 1) (by decide) ?_
          refine us_isub hR dX11_ended_67 ?_
          refine us_putIM hE hP3 35 hR dX11_ended_68 fR_12_275 (Or.inl rfl) rfl rfl (fun I11 s11 hs11 hP11 hF11 => ?_)
          rw [← hs11, bS_eq] at ho
          have hF11 := hF3.tr hF11
          refine us_aload_n hR dX11_ended_71 rfl ?_
          refine us_dup hR dX11_ended_72 rfl ?_
          refine us_getIx hR dX11_ended_73 fR_12_278 hE.2.1 rfl (RepM_f hP11 33) ?_
          refine us_iconstC hR dX11_ended_76 (c := 1) (by decide) ?_
          refine us_isub hR dX11_ended_77 ?_
          refine us_putIM hE hP11 33 hR dX11_ended_78 fR_12_278 (Or.inl rfl) rfl rfl (fun I12 s12 hs12 hP12 hF12 => ?_)
          rw [← hs12, bS_eq] at ho
          have hF12 := hF11.tr hF12
          refine us_aload_n hR dX11_ended_81 rfl ?_
          refine us_bipushC hR dX11_ended_82 (c := 6) (by decide) ?_
          refine us_putIM hE hP12 32 hR dX11_ended_84 fR_12_266 (Or.inl rfl) rfl rfl (fun I13 s13 hs13 hP13 hF13 => ?_)
          rw [← hs13, bS_eq] at ho
          have hF13 := hF12.tr hF13
          refine us_goto hR dX11_ended_87 123 (by decide) ?_
          refine us_iconstC hR dX11_ended_123 (c := 1) (by decide) ?_
          refine us_iret hR dX11_ended_124 rfl (nar01 (Or.inr rfl)) ?_
          cases ho
          exact h2 _ (Or.inr rfl) hP13 hF13
      · rw [if_pos c2] at ho
        refine us_aload_n hR dX11_ended_9 rfl ?_
        refine us_dup hR dX11_ended_10 rfl ?_
        refine us_getIx hR dX11_ended_11 fR_12_275 hE.2.1 rfl (RepM_f hPa 35) ?_
        refine us_iconstC hR dX11_ended_14 (c := 1) (by decide) ?_
        refine us_isub hR dX11_ended_15 ?_
        refine us_putIM hE hPa 35 hR dX11_ended_16 fR_12_275 (Or.inl rfl) rfl rfl (fun I14 s14 hs14 hP14 hF14 => ?_)
        rw [← hs14, bS_eq] at ho
        have hF14 := hFa.tr hF14
        refine us_aload_n hR dX11_ended_19 rfl ?_
        refine us_dup hR dX11_ended_20 rfl ?_
        refine us_getIx hR dX11_ended_21 fR_12_278 hE.2.1 rfl (RepM_f hP14 33) ?_
        refine us_iconstC hR dX11_ended_24 (c := 1) (by decide) ?_
        refine us_isub hR dX11_ended_25 ?_
        refine us_putIM hE hP14 33 hR dX11_ended_26 fR_12_278 (Or.inl rfl) rfl rfl (fun I15 s15 hs15 hP15 hF15 => ?_)
        rw [← hs15, bS_eq] at ho
        have hF15 := hF14.tr hF15
        refine us_aload_n hR dX11_ended_29 rfl ?_
        refine us_iconstC hR dX11_ended_30 (c := 4) (by decide) ?_
        refine us_aload_n hR dX11_ended_31 rfl ?_
        refine us_getR hR dX11_ended_32 fR_12_71 hE.2.1 rfl (em_r_37 hE) ?_
        refine us_aload_n hR dX11_ended_35 rfl ?_
        refine us_getIx hR dX11_ended_36 fR_12_275 hE.2.1 rfl (RepM_f hP15 35) ?_
        have hg := gd_c ho
        rw [gd_e hg] at ho
        refine us_ialoadM hE hP15 (em_q_37 hE) hR dX11_ended_39 hg ?_
        refine us_callV hR dX11_ended_40 (y := 12021) (by decide +kernel) (by decide) (J := i12021) rfl rfl rfl rfl hE.2.1 rfl (Nat.le_of_ble_eq_true rfl) (Nat.zero_le _) (Nat.zero_le _) ?_
        obtain ⟨q16, hs16⟩ := bO_ex ho
        obtain ⟨s16, r16⟩ := q16
        replace ho := bO_go ho hs16
        refine sp_12021 hE hP15  hs16 (fun I16 hP16 hF16 => ?_)
        have hF16 := hF15.tr hF16
        refine us_istore_n hR dX11_ended_43 (Nat.le_of_ble_eq_true rfl) ?_
        refine us_goto hR dX11_ended_44 0 (by decide) ?_
        exact ih0  _ s16 I16 _ _ hP16 hF16 ho
  exact h12034_L0 _  _ s I _ _ hP hF ho
def f_12035  (s : Mx) : Option (Mx × Int32) :=
  gd (vi (mf s 27) 110) <|
  bS (ms s 16 (mf s 27) (mf s 6)) fun s1 =>
  gd (vi (mf s1 27) 110) <|
  bS (ms s1 17 (mf s1 27) ((mf s1 7) - (mf s1 6))) fun s2 =>
  gd (vi (mf s2 27) 110) <|
  bS (ms s2 18 (mf s2 27) 0) fun s3 =>
  bOv (f_12024 42 (mf s3 27) s3) fun s4 =>
  bS (mp s4 27 ((mf s4 27) + 1)) fun s5 =>
  bO (f_12022 3 13 s5) fun s6 r6 =>
  some (s6, r6)
theorem sp_12035 {d : Nat} {G : ab_G} {ad : Nat → Nat} {I : Nat → Nat → Int32} {s : Mx} {P : ab_Pq} {X : ab_Xq} (hE : EM G ad) (hP : RepM I ad s)   {o : Mx × Int32} (ho : f_12035 s = some o) (h : ∀ I1, (o.2 = 0 ∨ o.2 = 1) → RepM I1 ad o.1 → FrM ad I I1 → P (gW G I1) (some (.int o.2))) : ab_Gam (d + 2) 12035 [.ref (ad 0)] (gW G I) P X := by
  have h2 := h
  have hF : FrM ad I I := FrM_rfl
  unfold f_12035 at ho
  refine ab_enter (I := i12035) rfl (Nat.le_of_ble_eq_true rfl) (fun R hR => ?_)
  refine us_aload_n hR dX11_opensCall_0 rfl ?_
  refine us_getR hR dX11_opensCall_1 fR_12_56 hE.2.1 rfl (em_r_28 hE) ?_
  refine us_aload_n hR dX11_opensCall_4 rfl ?_
  refine us_getIx hR dX11_opensCall_5 fR_12_308 hE.2.1 rfl (RepM_f hP 27) ?_
  refine us_aload_n hR dX11_opensCall_8 rfl ?_
  refine us_getIx hR dX11_opensCall_9 fR_12_219 hE.2.1 rfl (RepM_f hP 6) ?_
  have hg := gd_c ho
  rw [gd_e hg] at ho
  refine us_iastoreM hE hP (em_q_28 hE) hR dX11_opensCall_12 hg (fun I1 s1 hs1 hP1 hF1 => ?_)
  rw [← hs1, bS_eq] at ho
  have hF1 := hF.tr hF1
  refine us_aload_n hR dX11_opensCall_13 rfl ?_
  refine us_getR hR dX11_opensCall_14 fR_12_59 hE.2.1 rfl (em_r_29 hE) ?_
  refine us_aload_n hR dX11_opensCall_17 rfl ?_
  refine us_getIx hR dX11_opensCall_18 fR_12_308 hE.2.1 rfl (RepM_f hP1 27) ?_
  refine us_aload_n hR dX11_opensCall_21 rfl ?_
  refine us_getIx hR dX11_opensCall_22 fR_12_199 hE.2.1 rfl (RepM_f hP1 7) ?_
  refine us_aload_n hR dX11_opensCall_25 rfl ?_
  refine us_getIx hR dX11_opensCall_26 fR_12_219 hE.2.1 rfl (RepM_f hP1 6) ?_
  refine us_isub hR dX11_opensCall_29 ?_
  have hg := gd_c ho
  rw [gd_e hg] at ho
  refine us_iastoreM hE hP1 (em_q_29 hE) hR dX11_opensCall_30 hg (fun I2 s2 hs2 hP2 hF2 => ?_)
  rw [← hs2, bS_eq] at ho
  have hF2 := hF1.tr hF2
  refine us_aload_n hR dX11_opensCall_31 rfl ?_
  refine us_getR hR dX11_opensCall_32 fR_12_62 hE.2.1 rfl (em_r_30 hE) ?_
  refine us_aload_n hR dX11_opensCall_35 rfl ?_
  refine us_getIx hR dX11_opensCall_36 fR_12_308 hE.2.1 rfl (RepM_f hP2 27) ?_
  refine us_iconstC hR dX11_opensCall_39 (c := 0) (by decide) ?_
  have hg := gd_c ho
  rw [gd_e hg] at ho
  refine us_iastoreM hE hP2 (em_q_30 hE) hR dX11_opensCall_40 hg (fun I3 s3 hs3 hP3 hF3 => ?_)
  rw [← hs3, bS_eq] at ho
  have hF3 := hF2.tr hF3
  refine us_aload_n hR dX11_opensCall_41 rfl ?_
  refine us_bipushC hR dX11_opensCall_42 (c := 42) (by decide) ?_
  refine us_aload_n hR dX11_opensCall_44 rfl ?_
  refine us_getIx hR dX11_opensCall_45 fR_12_308 hE.2.1 rfl (RepM_f hP3 27) ?_
  refine us_callV hR dX11_opensCall_48 (y := 12024) (by decide +kernel) (by decide) (J := i12024) rfl rfl rfl rfl hE.2.1 rfl (Nat.le_of_ble_eq_true rfl) (Nat.zero_le _) (Nat.zero_le _) ?_
  obtain ⟨s4, hs4⟩ := bOv_ex ho
  replace ho := bOv_go ho hs4
  refine sp_12024 hE hP3  hs4 (fun I4 hP4 hF4 => ?_)
  have hF4 := hF3.tr hF4
  refine us_aload_n hR dX11_opensCall_51 rfl ?_
  refine us_dup hR dX11_opensCall_52 rfl ?_
  refine us_getIx hR dX11_opensCall_53 fR_12_308 hE.2.1 rfl (RepM_f hP4 27) ?_
  refine us_iconstC hR dX11_opensCall_56 (c := 1) (by decide) ?_
  refine us_iadd hR dX11_opensCall_57 ?_
  refine us_putIM hE hP4 27 hR dX11_opensCall_58 fR_12_308 (Or.inl rfl) rfl rfl (fun I5 s5 hs5 hP5 hF5 => ?_)
  rw [← hs5, bS_eq] at ho
  have hF5 := hF4.tr hF5
  refine us_aload_n hR dX11_opensCall_61 rfl ?_
  refine us_iconstC hR dX11_opensCall_62 (c := 3) (by decide) ?_
  refine us_bipushC hR dX11_opensCall_63 (c := 13) (by decide) ?_
  refine us_callV hR dX11_opensCall_65 (y := 12022) (by decide +kernel) (by decide) (J := i12022) rfl rfl rfl rfl hE.2.1 rfl (Nat.le_of_ble_eq_true rfl) (Nat.zero_le _) (Nat.zero_le _) ?_
  obtain ⟨q6, hs6⟩ := bO_ex ho
  obtain ⟨s6, r6⟩ := q6
  replace ho := bO_go ho hs6
  refine sp_12022 hE hP5  hs6 (fun I6 hb6 hP6 hF6 => ?_)
  have hF6 := hF5.tr hF6
  refine us_iret hR dX11_opensCall_68 rfl (nar01 hb6) ?_
  cases ho
  exact h2 _ hb6 hP6 hF6
def f_12036  (s : Mx) : Option (Mx × Int32) :=
  bO (f_12022 27 4 s) fun s1 r1 =>
  bS (mp s1 35 ((mf s1 35) - 1)) fun s2 =>
  bS (mp s2 33 ((mf s2 33) - 1)) fun s3 =>
  gd (vi (mf s3 35) 100) <|
  bO (f_12021 10 0 s3) fun s4 r4 =>
  gd (vi (mg s3 21 (mf s3 35)) 110) <|
  bS (ms s4 19 (mg s3 21 (mf s3 35)) r4) fun s5 =>
  bO (f_12034 s5) fun s6 r6 =>
  some (s6, r6)
theorem sp_12036 {d : Nat} {G : ab_G} {ad : Nat → Nat} {I : Nat → Nat → Int32} {s : Mx} {P : ab_Pq} {X : ab_Xq} (hE : EM G ad) (hP : RepM I ad s)   {o : Mx × Int32} (ho : f_12036 s = some o) (h : ∀ I1, (o.2 = 0 ∨ o.2 = 1) → RepM I1 ad o.1 → FrM ad I I1 → P (gW G I1) (some (.int o.2))) : ab_Gam (d + 3) 12036 [.ref (ad 0)] (gW G I) P X := by
  have h2 := h
  have hF : FrM ad I I := FrM_rfl
  unfold f_12036 at ho
  refine ab_enter (I := i12036) rfl (Nat.le_of_ble_eq_true rfl) (fun R hR => ?_)
  refine us_aload_n hR dX11_closesCall_0 rfl ?_
  refine us_bipushC hR dX11_closesCall_1 (c := 27) (by decide) ?_
  refine us_iconstC hR dX11_closesCall_3 (c := 4) (by decide) ?_
  refine us_callV hR dX11_closesCall_4 (y := 12022) (by decide +kernel) (by decide) (J := i12022) rfl rfl rfl rfl hE.2.1 rfl (Nat.le_of_ble_eq_true rfl) (Nat.zero_le _) (Nat.zero_le _) ?_
  obtain ⟨q1, hs1⟩ := bO_ex ho
  obtain ⟨s1, r1⟩ := q1
  replace ho := bO_go ho hs1
  refine sp_12022 hE hP  hs1 (fun I1 hb1 hP1 hF1 => ?_)
  have hF1 := hF.tr hF1
  refine us_istore_n hR dX11_closesCall_7 (Nat.le_of_ble_eq_true rfl) ?_
  refine us_aload_n hR dX11_closesCall_8 rfl ?_
  refine us_dup hR dX11_closesCall_9 rfl ?_
  refine us_getIx hR dX11_closesCall_10 fR_12_275 hE.2.1 rfl (RepM_f hP1 35) ?_
  refine us_iconstC hR dX11_closesCall_13 (c := 1) (by decide) ?_
  refine us_isub hR dX11_closesCall_14 ?_
  refine us_putIM hE hP1 35 hR dX11_closesCall_15 fR_12_275 (Or.inl rfl) rfl rfl (fun I2 s2 hs2 hP2 hF2 => ?_)
  rw [← hs2, bS_eq] at ho
  have hF2 := hF1.tr hF2
  refine us_aload_n hR dX11_closesCall_18 rfl ?_
  refine us_dup hR dX11_closesCall_19 rfl ?_
  refine us_getIx hR dX11_closesCall_20 fR_12_278 hE.2.1 rfl (RepM_f hP2 33) ?_
  refine us_iconstC hR dX11_closesCall_23 (c := 1) (by decide) ?_
  refine us_isub hR dX11_closesCall_24 ?_
  refine us_putIM hE hP2 33 hR dX11_closesCall_25 fR_12_278 (Or.inl rfl) rfl rfl (fun I3 s3 hs3 hP3 hF3 => ?_)
  rw [← hs3, bS_eq] at ho
  have hF3 := hF2.tr hF3
  refine us_aload_n hR dX11_closesCall_28 rfl ?_
  refine us_getR hR dX11_closesCall_29 fR_12_65 hE.2.1 rfl (em_r_31 hE) ?_
  refine us_aload_n hR dX11_closesCall_32 rfl ?_
  refine us_getR hR dX11_closesCall_33 fR_12_71 hE.2.1 rfl (em_r_37 hE) ?_
  refine us_aload_n hR dX11_closesCall_36 rfl ?_
  refine us_getIx hR dX11_closesCall_37 fR_12_275 hE.2.1 rfl (RepM_f hP3 35) ?_
  have hg := gd_c ho
  rw [gd_e hg] at ho
  refine us_ialoadM hE hP3 (em_q_37 hE) hR dX11_closesCall_40 hg ?_
  refine us_aload_n hR dX11_closesCall_41 rfl ?_
  refine us_bipushC hR dX11_closesCall_42 (c := 10) (by decide) ?_
  refine us_iconstC hR dX11_closesCall_44 (c := 0) (by decide) ?_
  refine us_callV hR dX11_closesCall_45 (y := 12021) (by decide +kernel) (by decide) (J := i12021) rfl rfl rfl rfl hE.2.1 rfl (Nat.le_of_ble_eq_true rfl) (Nat.zero_le _) (Nat.zero_le _) ?_
  obtain ⟨q4, hs4⟩ := bO_ex ho
  obtain ⟨s4, r4⟩ := q4
  replace ho := bO_go ho hs4
  refine sp_12021 hE hP3  hs4 (fun I4 hP4 hF4 => ?_)
  have hF4 := hF3.tr hF4
  have hg := gd_c ho
  rw [gd_e hg] at ho
  refine us_iastoreM hE hP4 (em_q_31 hE) hR dX11_closesCall_48 hg (fun I5 s5 hs5 hP5 hF5 => ?_)
  rw [← hs5, bS_eq] at ho
  have hF5 := hF4.tr hF5
  refine us_aload_n hR dX11_closesCall_49 rfl ?_
  refine us_callV hR dX11_closesCall_50 (y := 12034) (by decide +kernel) (by decide) (J := i12034) rfl rfl rfl rfl hE.2.1 rfl (Nat.le_of_ble_eq_true rfl) (Nat.zero_le _) (Nat.zero_le _) ?_
  obtain ⟨q6, hs6⟩ := bO_ex ho
  obtain ⟨s6, r6⟩ := q6
  replace ho := bO_go ho hs6
  refine sp_12034 hE hP5  hs6 (fun I6 hb6 hP6 hF6 => ?_)
  have hF6 := hF5.tr hF6
  refine us_iret hR dX11_closesCall_53 rfl (nar01 hb6) ?_
  cases ho
  exact h2 _ hb6 hP6 hF6
def f_12037 (x0 : Int32) (x1 : Int32) (x2 : Int32) (x3 : Int32) (s : Mx) : Option (Mx × Int32) :=
  bT (f_12026 s) fun s1 r1 =>
  if r1 = 0 then
    some (s1, 0)
  else
    gd (vi (mf s1 38) 10) <|
    bS (ms s1 22 (mf s1 38) x0) fun s3 =>
    gd (vi (mf s3 38) 10) <|
    bS (ms s3 23 (mf s3 38) x1) fun s4 =>
    gd (vi (mf s4 38) 10) <|
    bS (ms s4 24 (mf s4 38) x2) fun s5 =>
    gd (vi (mf s5 38) 10) <|
    bS (ms s5 25 (mf s5 38) x3) fun s6 =>
    bS (mp s6 38 ((mf s6 38) + 1)) fun s7 =>
    bO (f_12022 28 0 s7) fun s8 r8 =>
    some (s8, r8)
theorem sp_12037 {d : Nat} {G : ab_G} {ad : Nat → Nat} {I : Nat → Nat → Int32} {s : Mx} {P : ab_Pq} {X : ab_Xq} (hE : EM G ad) (hP : RepM I ad s) {x0 : Int32} {x1 : Int32} {x2 : Int32} {x3 : Int32}  {o : Mx × Int32} (ho : f_12037 x0 x1 x2 x3 s = some o) (h : ∀ I1, (o.2 = 0 ∨ o.2 = 1) → RepM I1 ad o.1 → FrM ad I I1 → P (gW G I1) (some (.int o.2))) : ab_Gam (d + 3) 12037 [.ref (ad 0), .int x0, .int x1, .int x2, .int x3] (gW G I) P X := by
  have h2 := h
  have hF : FrM ad I I := FrM_rfl
  unfold f_12037 at ho
  refine ab_enter (I := i12037) rfl (Nat.le_of_ble_eq_true rfl) (fun R hR => ?_)
  refine us_aload_n hR dX11_opensBlock_0 rfl ?_
  refine us_callV hR dX11_opensBlock_1 (y := 12026) (by decide +kernel) (by decide) (J := i12026) rfl rfl rfl rfl hE.2.1 rfl (Nat.le_of_ble_eq_true rfl) (Nat.zero_le _) (Nat.zero_le _) ?_
  refine sp_12026 hE hP  (fun I1 q1 hs1 hb1 hP1 hF1 => ?_)
  rw [← hs1] at ho
  obtain ⟨s1, r1⟩ := q1
  rw [bT_eq] at ho
  have hF1 := hF.tr hF1
  refine us_if_ne hR dX11_opensBlock_4 9 (by decide) (fun c2 => ?_) (fun c2 => ?_)
  · rw [if_neg c2] at ho
    refine us_aload_n hR dX11_opensBlock_9 rfl ?_
    refine us_getR hR dX11_opensBlock_10 fR_12_74 hE.2.1 rfl (em_r_39 hE) ?_
    refine us_aload_n hR dX11_opensBlock_13 rfl ?_
    refine us_getIx hR dX11_opensBlock_14 fR_12_326 hE.2.1 rfl (RepM_f hP1 38) ?_
    refine us_iload_n hR dX11_opensBlock_17 rfl ?_
    have hg := gd_c ho
    rw [gd_e hg] at ho
    refine us_iastoreM hE hP1 (em_q_39 hE) hR dX11_opensBlock_18 hg (fun I3 s3 hs3 hP3 hF3 => ?_)
    rw [← hs3, bS_eq] at ho
    have hF3 := hF1.tr hF3
    refine us_aload_n hR dX11_opensBlock_19 rfl ?_
    refine us_getR hR dX11_opensBlock_20 fR_12_77 hE.2.1 rfl (em_r_40 hE) ?_
    refine us_aload_n hR dX11_opensBlock_23 rfl ?_
    refine us_getIx hR dX11_opensBlock_24 fR_12_326 hE.2.1 rfl (RepM_f hP3 38) ?_
    refine us_iload_n hR dX11_opensBlock_27 rfl ?_
    have hg := gd_c ho
    rw [gd_e hg] at ho
    refine us_iastoreM hE hP3 (em_q_40 hE) hR dX11_opensBlock_28 hg (fun I4 s4 hs4 hP4 hF4 => ?_)
    rw [← hs4, bS_eq] at ho
    have hF4 := hF3.tr hF4
    refine us_aload_n hR dX11_opensBlock_29 rfl ?_
    refine us_getR hR dX11_opensBlock_30 fR_12_80 hE.2.1 rfl (em_r_41 hE) ?_
    refine us_aload_n hR dX11_opensBlock_33 rfl ?_
    refine us_getIx hR dX11_opensBlock_34 fR_12_326 hE.2.1 rfl (RepM_f hP4 38) ?_
    refine us_iload_n hR dX11_opensBlock_37 rfl ?_
    have hg := gd_c ho
    rw [gd_e hg] at ho
    refine us_iastoreM hE hP4 (em_q_41 hE) hR dX11_opensBlock_38 hg (fun I5 s5 hs5 hP5 hF5 => ?_)
    rw [← hs5, bS_eq] at ho
    have hF5 := hF4.tr hF5
    refine us_aload_n hR dX11_opensBlock_39 rfl ?_
    refine us_getR hR dX11_opensBlock_40 fR_12_83 hE.2.1 rfl (em_r_42 hE) ?_
    refine us_aload_n hR dX11_opensBlock_43 rfl ?_
    refine us_getIx hR dX11_opensBlock_44 fR_12_326 hE.2.1 rfl (RepM_f hP5 38) ?_
    refine us_iload hR dX11_opensBlock_47 rfl ?_
    have hg := gd_c ho
    rw [gd_e hg] at ho
    refine us_iastoreM hE hP5 (em_q_42 hE) hR dX11_opensBlock_49 hg (fun I6 s6 hs6 hP6 hF6 => ?_)
    rw [← hs6, bS_eq] at ho
    have hF6 := hF5.tr hF6
    refine us_aload_n hR dX11_opensBlock_50 rfl ?_
    refine us_dup hR dX11_opensBlock_51 rfl ?_
    refine us_getIx hR dX11_opensBlock_52 fR_12_326 hE.2.1 rfl (RepM_f hP6 38) ?_
    refine us_iconstC hR dX11_opensBlock_55 (c := 1) (by decide) ?_
    refine us_iadd hR dX11_opensBlock_56 ?_
    refine us_putIM hE hP6 38 hR dX11_opensBlock_57 fR_12_326 (Or.inl rfl) rfl rfl (fun I7 s7 hs7 hP7 hF7 => ?_)
    rw [← hs7, bS_eq] at ho
    have hF7 := hF6.tr hF7
    refine us_aload_n hR dX11_opensBlock_60 rfl ?_
    refine us_bipushC hR dX11_opensBlock_61 (c := 28) (by decide) ?_
    refine us_iconstC hR dX11_opensBlock_63 (c := 0) (by decide) ?_
    refine us_callV hR dX11_opensBlock_64 (y := 12022) (by decide +kernel) (by decide) (J := i12022) rfl rfl rfl rfl hE.2.1 rfl (Nat.le_of_ble_eq_true rfl) (Nat.zero_le _) (Nat.zero_le _) ?_
    obtain ⟨q8, hs8⟩ := bO_ex ho
    obtain ⟨s8, r8⟩ := q8
    replace ho := bO_go ho hs8
    refine sp_12022 hE hP7  hs8 (fun I8 hb8 hP8 hF8 => ?_)
    have hF8 := hF7.tr hF8
    refine us_iret hR dX11_opensBlock_67 rfl (nar01 hb8) ?_
    cases ho
    exact h2 _ hb8 hP8 hF8
  · rw [if_pos c2] at ho
    refine us_iconstC hR dX11_opensBlock_7 (c := 0) (by decide) ?_
    refine us_iret hR dX11_opensBlock_8 rfl (nar01 (Or.inl rfl)) ?_
    cases ho
    exact h2 _ (Or.inl rfl) hP1 hF1
def f_12038_J121  (l1 : Int32) (l2 : Int32) (s : Mx) : Option (Mx × Int32) :=
  gd (vi (mf s 38) 10) <|
  gd (vi (mg s 24 (mf s 38)) 1200) <|
  bS (ms s 5 (mg s 24 (mf s 38)) (mf s 11)) fun s1 =>
  some (s1, 1)
def f_12038  (s : Mx) : Option (Mx × Int32) :=
  bO (f_12022 29 0 s) fun s2 r2 =>
  bS (mp s2 38 ((mf s2 38) - 1)) fun s3 =>
  bS (mp s3 33 ((mf s3 33) - 1)) fun s4 =>
  gd (vi (mf s4 38) 10) <|
  gd (vi (mg s4 23 (mf s4 38)) 100) <|
  bS (ms s4 8 (mg s4 23 (mf s4 38)) ((mf s4 14) - 1)) fun s5 =>
  gd (vi (mf s5 38) 10) <|
  if (mg s5 22 (mf s5 38)) = 4 then
    bS (mp s5 32 1) fun s13 =>
    some (s13, 1)
  else
    if (mg s5 22 (mf s5 38)) = 6 then
      gd (vi (mf s5 38) 10) <|
      bO (f_12021 14 (mg s5 25 (mf s5 38)) s5) fun s12 r12 =>
      f_12038_J121 r2 (mg s5 22 (mf s5 38)) s12
    else
      if (mg s5 22 (mf s5 38)) = 9 then
        bO (f_12021 1 0 s5) fun s9 r9 =>
        bO (f_12021 15 0 s9) fun s10 r10 =>
        bS (mp s10 34 0) fun s11 =>
        f_12038_J121 r2 (mg s5 22 (mf s5 38)) s11
      else
        f_12038_J121 r2 (mg s5 22 (mf s5 38)) s5
theorem sp_12038 {d : Nat} {G : ab_G} {ad : Nat → Nat} {I : Nat → Nat → Int32} {s : Mx} {P : ab_Pq} {X : ab_Xq} (hE : EM G ad) (hP : RepM I ad s)   {o : Mx × Int32} (ho : f_12038 s = some o) (h : ∀ I1, (o.2 = 0 ∨ o.2 = 1) → RepM I1 ad o.1 → FrM ad I I1 → P (gW G I1) (some (.int o.2))) : ab_Gam (d + 2) 12038 [.ref (ad 0)] (gW G I) P X := by
  have h2 := h
  have hF : FrM ad I I := FrM_rfl
  unfold f_12038 at ho
  refine ab_enter (I := i12038) rfl (Nat.le_of_ble_eq_true rfl) (fun R hR => ?_)
  have h12038_J121 : ∀ (l1 : Int32) (l2 : Int32) (w3 : Option Value) (s : Mx) (Ia : Nat → Nat → Int32) (bc bs : Nat) (hPa : RepM Ia ad s) (hFa : FrM ad I Ia) (ho : f_12038_J121 l1 l2 s = some o), R 121 [some (.ref (ad 0)), some (.int l1), some (.int l2), w3] [] (gW G Ia) bc bs := by
    intro l1 l2 w3 s Ia bc bs  hPa hFa ho
    unfold f_12038_J121 at ho
    refine us_aload_n hR dX11_closesBlock_121 rfl ?_
    refine us_getR hR dX11_closesBlock_122 fR_12_23 hE.2.1 rfl (em_r_13 hE) ?_
    refine us_aload_n hR dX11_closesBlock_125 rfl ?_
    refine us_getR hR dX11_closesBlock_126 fR_12_80 hE.2.1 rfl (em_r_41 hE) ?_
    refine us_aload_n hR dX11_closesBlock_129 rfl ?_
    refine us_getIx hR dX11_closesBlock_130 fR_12_326 hE.2.1 rfl (RepM_f hPa 38) ?_
    have hg := gd_c ho
    rw [gd_e hg] at ho
    refine us_ialoadM hE hPa (em_q_41 hE) hR dX11_closesBlock_133 hg ?_
    refine us_aload_n hR dX11_closesBlock_134 rfl ?_
    refine us_getIx hR dX11_closesBlock_135 fR_12_260 hE.2.1 rfl (RepM_f hPa 11) ?_
    have hg := gd_c ho
    rw [gd_e hg] at ho
    refine us_iastoreM hE hPa (em_q_13 hE) hR dX11_closesBlock_138 hg (fun I1 s1 hs1 hP1 hF1 => ?_)
    rw [← hs1, bS_eq] at ho
    have hF1 := hFa.tr hF1
    refine us_iconstC hR dX11_closesBlock_139 (c := 1) (by decide) ?_
    refine us_iret hR dX11_closesBlock_140 rfl (nar01 (Or.inr rfl)) ?_
    cases ho
    exact h2 _ (Or.inr rfl) hP1 hF1
  refine us_aload_n hR dX11_closesBlock_0 rfl ?_
  refine us_bipushC hR dX11_closesBlock_1 (c := 29) (by decide) ?_
  refine us_iconstC hR dX11_closesBlock_3 (c := 0) (by decide) ?_
  refine us_callV hR dX11_closesBlock_4 (y := 12022) (by decide +kernel) (by decide) (J := i12022) rfl rfl rfl rfl hE.2.1 rfl (Nat.le_of_ble_eq_true rfl) (Nat.zero_le _) (Nat.zero_le _) ?_
  obtain ⟨q2, hs2⟩ := bO_ex ho
  obtain ⟨s2, r2⟩ := q2
  replace ho := bO_go ho hs2
  refine sp_12022 hE hP  hs2 (fun I2 hb2 hP2 hF2 => ?_)
  have hF2 := hF.tr hF2
  refine us_istore_n hR dX11_closesBlock_7 (Nat.le_of_ble_eq_true rfl) ?_
  refine us_aload_n hR dX11_closesBlock_8 rfl ?_
  refine us_dup hR dX11_closesBlock_9 rfl ?_
  refine us_getIx hR dX11_closesBlock_10 fR_12_326 hE.2.1 rfl (RepM_f hP2 38) ?_
  refine us_iconstC hR dX11_closesBlock_13 (c := 1) (by decide) ?_
  refine us_isub hR dX11_closesBlock_14 ?_
  refine us_putIM hE hP2 38 hR dX11_closesBlock_15 fR_12_326 (Or.inl rfl) rfl rfl (fun I3 s3 hs3 hP3 hF3 => ?_)
  rw [← hs3, bS_eq] at ho
  have hF3 := hF2.tr hF3
  refine us_aload_n hR dX11_closesBlock_18 rfl ?_
  refine us_dup hR dX11_closesBlock_19 rfl ?_
  refine us_getIx hR dX11_closesBlock_20 fR_12_278 hE.2.1 rfl (RepM_f hP3 33) ?_
  refine us_iconstC hR dX11_closesBlock_23 (c := 1) (by decide) ?_
  refine us_isub hR dX11_closesBlock_24 ?_
  refine us_putIM hE hP3 33 hR dX11_closesBlock_25 fR_12_278 (Or.inl rfl) rfl rfl (fun I4 s4 hs4 hP4 hF4 => ?_)
  rw [← hs4, bS_eq] at ho
  have hF4 := hF3.tr hF4
  refine us_aload_n hR dX11_closesBlock_28 rfl ?_
  refine us_getR hR dX11_closesBlock_29 fR_12_32 hE.2.1 rfl (em_r_18 hE) ?_
  refine us_aload_n hR dX11_closesBlock_32 rfl ?_
  refine us_getR hR dX11_closesBlock_33 fR_12_77 hE.2.1 rfl (em_r_40 hE) ?_
  refine us_aload_n hR dX11_closesBlock_36 rfl ?_
  refine us_getIx hR dX11_closesBlock_37 fR_12_326 hE.2.1 rfl (RepM_f hP4 38) ?_
  have hg := gd_c ho
  rw [gd_e hg] at ho
  refine us_ialoadM hE hP4 (em_q_40 hE) hR dX11_closesBlock_40 hg ?_
  refine us_aload_n hR dX11_closesBlock_41 rfl ?_
  refine us_getIx hR dX11_closesBlock_42 fR_12_263 hE.2.1 rfl (RepM_f hP4 14) ?_
  refine us_iconstC hR dX11_closesBlock_45 (c := 1) (by decide) ?_
  refine us_isub hR dX11_closesBlock_46 ?_
  have hg := gd_c ho
  rw [gd_e hg] at ho
  refine us_iastoreM hE hP4 (em_q_18 hE) hR dX11_closesBlock_47 hg (fun I5 s5 hs5 hP5 hF5 => ?_)
  rw [← hs5, bS_eq] at ho
  have hF5 := hF4.tr hF5
  refine us_aload_n hR dX11_closesBlock_48 rfl ?_
  refine us_getR hR dX11_closesBlock_49 fR_12_74 hE.2.1 rfl (em_r_39 hE) ?_
  refine us_aload_n hR dX11_closesBlock_52 rfl ?_
  refine us_getIx hR dX11_closesBlock_53 fR_12_326 hE.2.1 rfl (RepM_f hP5 38) ?_
  have hg := gd_c ho
  rw [gd_e hg] at ho
  refine us_ialoadM hE hP5 (em_q_39 hE) hR dX11_closesBlock_56 hg ?_
  refine us_istore_n hR dX11_closesBlock_57 (Nat.le_of_ble_eq_true rfl) ?_
  refine us_iload_n hR dX11_closesBlock_58 rfl ?_
  refine us_iconstC hR dX11_closesBlock_59 (c := 4) (by decide) ?_
  refine us_icmp_ne hR dX11_closesBlock_60 70 (by decide) (fun c6 => ?_) (fun c6 => ?_)
  · rw [if_neg c6] at ho
    refine us_iload_n hR dX11_closesBlock_70 rfl ?_
    refine us_bipushC hR dX11_closesBlock_71 (c := 6) (by decide) ?_
    refine us_icmp_ne hR dX11_closesBlock_73 95 (by decide) (fun c7 => ?_) (fun c7 => ?_)
    · rw [if_neg c7] at ho
      refine us_iload_n hR dX11_closesBlock_95 rfl ?_
      refine us_bipushC hR dX11_closesBlock_96 (c := 9) (by decide) ?_
      refine us_icmp_ne hR dX11_closesBlock_98 121 (by decide) (fun c8 => ?_) (fun c8 => ?_)
      · rw [if_neg c8] at ho
        exact h12038_J121 r2 (mg s5 22 (mf s5 38)) _ s5 I5 _ _ hP5 hF5 ho
      · rw [if_pos c8] at ho
        refine us_aload_n hR dX11_closesBlock_101 rfl ?_
        refine us_iconstC hR dX11_closesBlock_102 (c := 1) (by decide) ?_
        refine us_iconstC hR dX11_closesBlock_103 (c := 0) (by decide) ?_
        refine us_callV hR dX11_closesBlock_104 (y := 12021) (by decide +kernel) (by decide) (J := i12021) rfl rfl rfl rfl hE.2.1 rfl (Nat.le_of_ble_eq_true rfl) (Nat.zero_le _) (Nat.zero_le _) ?_
        obtain ⟨q9, hs9⟩ := bO_ex ho
        obtain ⟨s9, r9⟩ := q9
        replace ho := bO_go ho hs9
        refine sp_12021 hE hP5  hs9 (fun I9 hP9 hF9 => ?_)
        have hF9 := hF5.tr hF9
        refine us_istore_n hR dX11_closesBlock_107 (Nat.le_of_ble_eq_true rfl) ?_
        refine us_aload_n hR dX11_closesBlock_108 rfl ?_
        refine us_bipushC hR dX11_closesBlock_109 (c := 15) (by decide) ?_
        refine us_iconstC hR dX11_closesBlock_111 (c := 0) (by decide) ?_
        refine us_callV hR dX11_closesBlock_112 (y := 12021) (by decide +kernel) (by decide) (J := i12021) rfl rfl rfl rfl hE.2.1 rfl (Nat.le_of_ble_eq_true rfl) (Nat.zero_le _) (Nat.zero_le _) ?_
        obtain ⟨q10, hs10⟩ := bO_ex ho
        obtain ⟨s10, r10⟩ := q10
        replace ho := bO_go ho hs10
        refine sp_12021 hE hP9  hs10 (fun I10 hP10 hF10 => ?_)
        have hF10 := hF9.tr hF10
        refine us_istore_n hR dX11_closesBlock_115 (Nat.le_of_ble_eq_true rfl) ?_
        refine us_aload_n hR dX11_closesBlock_116 rfl ?_
        refine us_iconstC hR dX11_closesBlock_117 (c := 0) (by decide) ?_
        refine us_putIM hE hP10 34 hR dX11_closesBlock_118 fR_12_285 (Or.inl rfl) rfl rfl (fun I11 s11 hs11 hP11 hF11 => ?_)
        rw [← hs11, bS_eq] at ho
        have hF11 := hF10.tr hF11
        exact h12038_J121 r2 (mg s5 22 (mf s5 38)) _ s11 I11 _ _ hP11 hF11 ho
    · rw [if_pos c7] at ho
      refine us_aload_n hR dX11_closesBlock_76 rfl ?_
      refine us_bipushC hR dX11_closesBlock_77 (c := 14) (by decide) ?_
      refine us_aload_n hR dX11_closesBlock_79 rfl ?_
      refine us_getR hR dX11_closesBlock_80 fR_12_83 hE.2.1 rfl (em_r_42 hE) ?_
      refine us_aload_n hR dX11_closesBlock_83 rfl ?_
      refine us_getIx hR dX11_closesBlock_84 fR_12_326 hE.2.1 rfl (RepM_f hP5 38) ?_
      have hg := gd_c ho
      rw [gd_e hg] at ho
      refine us_ialoadM hE hP5 (em_q_42 hE) hR dX11_closesBlock_87 hg ?_
      refine us_callV hR dX11_closesBlock_88 (y := 12021) (by decide +kernel) (by decide) (J := i12021) rfl rfl rfl rfl hE.2.1 rfl (Nat.le_of_ble_eq_true rfl) (Nat.zero_le _) (Nat.zero_le _) ?_
      obtain ⟨q12, hs12⟩ := bO_ex ho
      obtain ⟨s12, r12⟩ := q12
      replace ho := bO_go ho hs12
      refine sp_12021 hE hP5  hs12 (fun I12 hP12 hF12 => ?_)
      have hF12 := hF5.tr hF12
      refine us_istore_n hR dX11_closesBlock_91 (Nat.le_of_ble_eq_true rfl) ?_
      refine us_goto hR dX11_closesBlock_92 121 (by decide) ?_
      exact h12038_J121 r2 (mg s5 22 (mf s5 38)) _ s12 I12 _ _ hP12 hF12 ho
  · rw [if_pos c6] at ho
    refine us_aload_n hR dX11_closesBlock_63 rfl ?_
    refine us_iconstC hR dX11_closesBlock_64 (c := 1) (by decide) ?_
    refine us_putIM hE hP5 32 hR dX11_closesBlock_65 fR_12_266 (Or.inl rfl) rfl rfl (fun I13 s13 hs13 hP13 hF13 => ?_)
    rw [← hs13, bS_eq] at ho
    have hF13 := hF5.tr hF13
    refine us_iconstC hR dX11_closesBlock_68 (c := 1) (by decide) ?_
    refine us_iret hR dX11_closesBlock_69 rfl (nar01 (Or.inr rfl)) ?_
    cases ho
    exact h2 _ (Or.inr rfl) hP13 hF13
def f_12040 (x0 : Int32) (x1 : Int32) (s : Mx) : Option (Mx × Int32) :=
  bOv (f_12023 s) fun s1 =>
  bO (f_12021 0 0 s1) fun s2 r2 =>
  gd (vi (mf s1 38) 10) <|
  bS (ms s2 25 (mf s1 38) r2) fun s3 =>
  bOv (f_12024 x0 x1 s3) fun s4 =>
  some (s4, 1)
theorem sp_12040 {d : Nat} {G : ab_G} {ad : Nat → Nat} {I : Nat → Nat → Int32} {s : Mx} {P : ab_Pq} {X : ab_Xq} (hE : EM G ad) (hP : RepM I ad s) {x0 : Int32} {x1 : Int32}  {o : Mx × Int32} (ho : f_12040 x0 x1 s = some o) (h : ∀ I1, (o.2 = 0 ∨ o.2 = 1) → RepM I1 ad o.1 → FrM ad I I1 → P (gW G I1) (some (.int o.2))) : ab_Gam (d + 2) 12040 [.ref (ad 0), .int x0, .int x1] (gW G I) P X := by
  have h2 := h
  have hF : FrM ad I I := FrM_rfl
  unfold f_12040 at ho
  refine ab_enter (I := i12040) rfl (Nat.le_of_ble_eq_true rfl) (fun R hR => ?_)
  refine us_aload_n hR dX11_begins_0 rfl ?_
  refine us_callV hR dX11_begins_1 (y := 12023) (by decide +kernel) (by decide) (J := i12023) rfl rfl rfl rfl hE.2.1 rfl (Nat.le_of_ble_eq_true rfl) (Nat.zero_le _) (Nat.zero_le _) ?_
  obtain ⟨s1, hs1⟩ := bOv_ex ho
  replace ho := bOv_go ho hs1
  refine sp_12023 hE hP  hs1 (fun I1 hP1 hF1 => ?_)
  have hF1 := hF.tr hF1
  refine us_aload_n hR dX11_begins_4 rfl ?_
  refine us_getR hR dX11_begins_5 fR_12_83 hE.2.1 rfl (em_r_42 hE) ?_
  refine us_aload_n hR dX11_begins_8 rfl ?_
  refine us_getIx hR dX11_begins_9 fR_12_326 hE.2.1 rfl (RepM_f hP1 38) ?_
  refine us_aload_n hR dX11_begins_12 rfl ?_
  refine us_iconstC hR dX11_begins_13 (c := 0) (by decide) ?_
  refine us_iconstC hR dX11_begins_14 (c := 0) (by decide) ?_
  refine us_callV hR dX11_begins_15 (y := 12021) (by decide +kernel) (by decide) (J := i12021) rfl rfl rfl rfl hE.2.1 rfl (Nat.le_of_ble_eq_true rfl) (Nat.zero_le _) (Nat.zero_le _) ?_
  obtain ⟨q2, hs2⟩ := bO_ex ho
  obtain ⟨s2, r2⟩ := q2
  replace ho := bO_go ho hs2
  refine sp_12021 hE hP1  hs2 (fun I2 hP2 hF2 => ?_)
  have hF2 := hF1.tr hF2
  have hg := gd_c ho
  rw [gd_e hg] at ho
  refine us_iastoreM hE hP2 (em_q_42 hE) hR dX11_begins_18 hg (fun I3 s3 hs3 hP3 hF3 => ?_)
  rw [← hs3, bS_eq] at ho
  have hF3 := hF2.tr hF3
  refine us_aload_n hR dX11_begins_19 rfl ?_
  refine us_iload_n hR dX11_begins_20 rfl ?_
  refine us_iload_n hR dX11_begins_21 rfl ?_
  refine us_callV hR dX11_begins_22 (y := 12024) (by decide +kernel) (by decide) (J := i12024) rfl rfl rfl rfl hE.2.1 rfl (Nat.le_of_ble_eq_true rfl) (Nat.zero_le _) (Nat.zero_le _) ?_
  obtain ⟨s4, hs4⟩ := bOv_ex ho
  replace ho := bOv_go ho hs4
  refine sp_12024 hE hP3  hs4 (fun I4 hP4 hF4 => ?_)
  have hF4 := hF3.tr hF4
  refine us_iconstC hR dX11_begins_25 (c := 1) (by decide) ?_
  refine us_iret hR dX11_begins_26 rfl (nar01 (Or.inr rfl)) ?_
  cases ho
  exact h2 _ (Or.inr rfl) hP4 hF4
def f_12041  (s : Mx) : Option (Mx × Int32) :=
  bP (f_12014 s) fun r1 =>
  if r1 = 0 then
    bO (f_12029 s) fun s3 r3 =>
    if r3 = (-1) then
      bT (f_12020 5 s3) fun s7 r7 =>
      some (s7, r7)
    else
      bO (f_12040 43 r3 s3) fun s5 r5 =>
      bO (f_12022 2 5 s5) fun s6 r6 =>
      some (s6, r6)
  else
    bO (f_12040 50 0 s) fun s8 r8 =>
    bO (f_12035 s8) fun s9 r9 =>
    some (s9, r9)
theorem sp_12041 {d : Nat} {G : ab_G} {ad : Nat → Nat} {I : Nat → Nat → Int32} {s : Mx} {P : ab_Pq} {X : ab_Xq} (hE : EM G ad) (hP : RepM I ad s)   {o : Mx × Int32} (ho : f_12041 s = some o) (h : ∀ I1, (o.2 = 0 ∨ o.2 = 1) → RepM I1 ad o.1 → FrM ad I I1 → P (gW G I1) (some (.int o.2))) : ab_Gam (d + 4) 12041 [.ref (ad 0)] (gW G I) P X := by
  have h2 := h
  have hF : FrM ad I I := FrM_rfl
  unfold f_12041 at ho
  refine ab_enter (I := i12041) rfl (Nat.le_of_ble_eq_true rfl) (fun R hR => ?_)
  refine us_aload_n hR dX11_names_0 rfl ?_
  refine us_callV hR dX11_names_1 (y := 12014) (by decide +kernel) (by decide) (J := i12014) rfl rfl rfl rfl hE.2.1 rfl (Nat.le_of_ble_eq_true rfl) (Nat.zero_le _) (Nat.zero_le _) ?_
  obtain ⟨r1, hr1⟩ := bP_ex ho
  replace ho := bP_go ho hr1
  refine sp_12014 hE hP  hr1 (fun hb1 => ?_)
  refine us_if_eq hR dX11_names_4 20 (by decide) (fun c2 => ?_) (fun c2 => ?_)
  · rw [if_pos c2] at ho
    refine us_aload_n hR dX11_names_20 rfl ?_
    refine us_callV hR dX11_names_21 (y := 12029) (by decide +kernel) (by decide) (J := i12029) rfl rfl rfl rfl hE.2.1 rfl (Nat.le_of_ble_eq_true rfl) (Nat.zero_le _) (Nat.zero_le _) ?_
    obtain ⟨q3, hs3⟩ := bO_ex ho
    obtain ⟨s3, r3⟩ := q3
    replace ho := bO_go ho hs3
    refine sp_12029 hE hP  hs3 (fun I3 hP3 hF3 => ?_)
    have hF3 := hF.tr hF3
    refine us_istore_n hR dX11_names_24 (Nat.le_of_ble_eq_true rfl) ?_
    refine us_iload_n hR dX11_names_25 rfl ?_
    refine us_iconstC hR dX11_names_26 (c := (-1)) (by decide) ?_
    refine us_icmp_ne hR dX11_names_27 36 (by decide) (fun c4 => ?_) (fun c4 => ?_)
    · rw [if_neg c4] at ho
      refine us_aload_n hR dX11_names_36 rfl ?_
      refine us_bipushC hR dX11_names_37 (c := 43) (by decide) ?_
      refine us_iload_n hR dX11_names_39 rfl ?_
      refine us_callV hR dX11_names_40 (y := 12040) (by decide +kernel) (by decide) (J := i12040) rfl rfl rfl rfl hE.2.1 rfl (Nat.le_of_ble_eq_true rfl) (Nat.zero_le _) (Nat.zero_le _) ?_
      obtain ⟨q5, hs5⟩ := bO_ex ho
      obtain ⟨s5, r5⟩ := q5
      replace ho := bO_go ho hs5
      refine sp_12040 hE hP3  hs5 (fun I5 hb5 hP5 hF5 => ?_)
      have hF5 := hF3.tr hF5
      refine us_istore_n hR dX11_names_43 (Nat.le_of_ble_eq_true rfl) ?_
      refine us_aload_n hR dX11_names_44 rfl ?_
      refine us_iconstC hR dX11_names_45 (c := 2) (by decide) ?_
      refine us_iconstC hR dX11_names_46 (c := 5) (by decide) ?_
      refine us_callV hR dX11_names_47 (y := 12022) (by decide +kernel) (by decide) (J := i12022) rfl rfl rfl rfl hE.2.1 rfl (Nat.le_of_ble_eq_true rfl) (Nat.zero_le _) (Nat.zero_le _) ?_
      obtain ⟨q6, hs6⟩ := bO_ex ho
      obtain ⟨s6, r6⟩ := q6
      replace ho := bO_go ho hs6
      refine sp_12022 hE hP5  hs6 (fun I6 hb6 hP6 hF6 => ?_)
      have hF6 := hF5.tr hF6
      refine us_iret hR dX11_names_50 rfl (nar01 hb6) ?_
      cases ho
      exact h2 _ hb6 hP6 hF6
    · rw [if_pos c4] at ho
      refine us_aload_n hR dX11_names_30 rfl ?_
      refine us_iconstC hR dX11_names_31 (c := 5) (by decide) ?_
      refine us_callV hR dX11_names_32 (y := 12020) (by decide +kernel) (by decide) (J := i12020) rfl rfl rfl rfl hE.2.1 rfl (Nat.le_of_ble_eq_true rfl) (Nat.zero_le _) (Nat.zero_le _) ?_
      refine sp_12020 hE hP3  (fun I7 q7 hs7 hb7 hP7 hF7 => ?_)
      rw [← hs7] at ho
      obtain ⟨s7, r7⟩ := q7
      rw [bT_eq] at ho
      have hF7 := hF3.tr hF7
      refine us_iret hR dX11_names_35 rfl (nar01 hb7) ?_
      cases ho
      exact h2 _ hb7 hP7 hF7
  · rw [if_neg c2] at ho
    refine us_aload_n hR dX11_names_7 rfl ?_
    refine us_bipushC hR dX11_names_8 (c := 50) (by decide) ?_
    refine us_iconstC hR dX11_names_10 (c := 0) (by decide) ?_
    refine us_callV hR dX11_names_11 (y := 12040) (by decide +kernel) (by decide) (J := i12040) rfl rfl rfl rfl hE.2.1 rfl (Nat.le_of_ble_eq_true rfl) (Nat.zero_le _) (Nat.zero_le _) ?_
    obtain ⟨q8, hs8⟩ := bO_ex ho
    obtain ⟨s8, r8⟩ := q8
    replace ho := bO_go ho hs8
    refine sp_12040 hE hP  hs8 (fun I8 hb8 hP8 hF8 => ?_)
    have hF8 := hF.tr hF8
    refine us_istore_n hR dX11_names_14 (Nat.le_of_ble_eq_true rfl) ?_
    refine us_aload_n hR dX11_names_15 rfl ?_
    refine us_callV hR dX11_names_16 (y := 12035) (by decide +kernel) (by decide) (J := i12035) rfl rfl rfl rfl hE.2.1 rfl (Nat.le_of_ble_eq_true rfl) (Nat.zero_le _) (Nat.zero_le _) ?_
    obtain ⟨q9, hs9⟩ := bO_ex ho
    obtain ⟨s9, r9⟩ := q9
    replace ho := bO_go ho hs9
    refine sp_12035 hE hP8  hs9 (fun I9 hb9 hP9 hF9 => ?_)
    have hF9 := hF8.tr hF9
    refine us_iret hR dX11_names_19 rfl (nar01 hb9) ?_
    cases ho
    exact h2 _ hb9 hP9 hF9
def f_12042  (s : Mx) : Option (Mx × Int32) :=
  if (mf s 5) = 0 then
    if (mf s 38) = 0 then
      bO (f_12021 17 0 s) fun s5 r5 =>
      if 0 ≤ r5 then
        some (s5, 0)
      else
        some (s5, 1)
    else
      bT (f_12020 3 s) fun s4 r4 =>
      some (s4, r4)
  else if (mf s 5) = 1 then
    bT (f_12020 3 s) fun s7 r7 =>
    some (s7, r7)
  else if (mf s 5) = 2 then
    bO (f_12041 s) fun s8 r8 =>
    some (s8, r8)
  else if (mf s 5) = 3 then
    bT (f_12020 3 s) fun s9 r9 =>
    some (s9, r9)
  else if (mf s 5) = 4 then
    bO (f_12040 46 0 s) fun s10 r10 =>
    if r10 = 0 then
      some (s10, 0)
    else
      bO (f_12022 4 2 s10) fun s12 r12 =>
      if r12 = 0 then
        some (s12, 0)
      else
        some (s12, 1)
  else if (mf s 5) = 5 then
    bT (f_12020 3 s) fun s14 r14 =>
    some (s14, r14)
  else if (mf s 5) = 6 then
    bO (f_12040 47 0 s) fun s15 r15 =>
    if r15 = 0 then
      some (s15, 0)
    else
      bO (f_12022 6 2 s15) fun s17 r17 =>
      if r17 = 0 then
        some (s17, 0)
      else
        some (s17, 1)
  else if (mf s 5) = 7 then
    bO (f_12040 44 0 s) fun s19 r19 =>
    if r19 = 0 then
      some (s19, 0)
    else
      bO (f_12022 7 2 s19) fun s21 r21 =>
      if r21 = 0 then
        some (s21, 0)
      else
        some (s21, 1)
  else if (mf s 5) = 8 then
    bT (f_12020 3 s) fun s23 r23 =>
    some (s23, r23)
  else if (mf s 5) = 9 then
    if (mf s 38) ≤ 0 then
      bOv (f_12023 s) fun s25 =>
      bO (f_12022 9 8 s25) fun s26 r26 =>
      some (s26, r26)
    else
      bT (f_12020 3 s) fun s27 r27 =>
      some (s27, r27)
  else if (mf s 5) = 10 then
    if (mf s 34) = 0 then
      bT (f_12020 3 s) fun s33 r33 =>
      some (s33, r33)
    else
      bO (f_12040 45 0 s) fun s29 r29 =>
      if r29 = 0 then
        some (s29, 0)
      else
        bO (f_12022 10 2 s29) fun s31 r31 =>
        if r31 = 0 then
          some (s31, 0)
        else
          some (s31, 1)
  else if (mf s 5) = 11 then
    bT (f_12020 3 s) fun s34 r34 =>
    some (s34, r34)
  else if (mf s 5) = 12 then
    bT (f_12020 3 s) fun s35 r35 =>
    some (s35, r35)
  else if (mf s 5) = 13 then
    bT (f_12020 3 s) fun s36 r36 =>
    some (s36, r36)
  else if (mf s 5) = 14 then
    bT (f_12020 3 s) fun s37 r37 =>
    some (s37, r37)
  else if (mf s 5) = 15 then
    bT (f_12020 3 s) fun s38 r38 =>
    some (s38, r38)
  else if (mf s 5) = 16 then
    bT (f_12020 3 s) fun s39 r39 =>
    some (s39, r39)
  else if (mf s 5) = 17 then
    bT (f_12020 3 s) fun s40 r40 =>
    some (s40, r40)
  else if (mf s 5) = 18 then
    bT (f_12020 3 s) fun s41 r41 =>
    some (s41, r41)
  else if (mf s 5) = 19 then
    bT (f_12020 3 s) fun s42 r42 =>
    some (s42, r42)
  else if (mf s 5) = 20 then
    bT (f_12020 3 s) fun s43 r43 =>
    some (s43, r43)
  else if (mf s 5) = 21 then
    bT (f_12020 3 s) fun s44 r44 =>
    some (s44, r44)
  else if (mf s 5) = 22 then
    bT (f_12020 3 s) fun s45 r45 =>
    some (s45, r45)
  else if (mf s 5) = 23 then
    bT (f_12020 3 s) fun s46 r46 =>
    some (s46, r46)
  else if (mf s 5) = 24 then
    bT (f_12020 3 s) fun s47 r47 =>
    some (s47, r47)
  else if (mf s 5) = 25 then
    bT (f_12020 3 s) fun s48 r48 =>
    some (s48, r48)
  else if (mf s 5) = 26 then
    bT (f_12020 3 s) fun s49 r49 =>
    some (s49, r49)
  else if (mf s 5) = 27 then
    bT (f_12020 3 s) fun s50 r50 =>
    some (s50, r50)
  else if (mf s 5) = 28 then
    bT (f_12020 3 s) fun s51 r51 =>
    some (s51, r51)
  else if (mf s 5) = 29 then
    if (mf s 38) ≤ 0 then
      bT (f_12020 3 s) fun s53 r53 =>
      some (s53, r53)
    else
      bO (f_12038 s) fun s54 r54 =>
      some (s54, r54)
  else if (mf s 5) = 30 then
    bT (f_12020 3 s) fun s55 r55 =>
    some (s55, r55)
  else if (mf s 5) = 31 then
    bT (f_12020 3 s) fun s56 r56 =>
    some (s56, r56)
  else if (mf s 5) = 32 then
    bT (f_12026 s) fun s57 r57 =>
    if r57 = 0 then
      some (s57, 0)
    else
      bO (f_12040 48 0 s57) fun s59 r59 =>
      if r59 = 0 then
        some (s59, 0)
      else
        bO (f_12022 32 2 s59) fun s61 r61 =>
        if r61 = 0 then
          some (s61, 0)
        else
          some (s61, 1)
  else
    bT (f_12020 3 s) fun s2 r2 =>
    some (s2, r2)
theorem sp_12042 {d : Nat} {G : ab_G} {ad : Nat → Nat} {I : Nat → Nat → Int32} {s : Mx} {P : ab_Pq} {X : ab_Xq} (hE : EM G ad) (hP : RepM I ad s)   {o : Mx × Int32} (ho : f_12042 s = some o) (h : ∀ I1, (o.2 = 0 ∨ o.2 = 1) → RepM I1 ad o.1 → FrM ad I I1 → P (gW G I1) (some (.int o.2))) : ab_Gam (d + 5) 12042 [.ref (ad 0)] (gW G I) P X := by
  have h2 := h
  have hF : FrM ad I I := FrM_rfl
  unfold f_12042 at ho
  refine ab_enter (I := i12042) rfl (Nat.le_of_ble_eq_true rfl) (fun R hR => ?_)
  refine us_aload_n hR dX11_statement_0 rfl ?_
  refine us_getIx hR dX11_statement_1 fR_12_240 hE.2.1 rfl (RepM_f hP 5) ?_
  refine us_tsw hR dX11_statement_4 (fun c1 => ⟨by decide, ?_⟩) (by decide) ⟨fun c1 => ⟨by decide, ?_⟩, fun c1 => ⟨by decide, ?_⟩, fun c1 => ⟨by decide, ?_⟩, fun c1 => ⟨by decide, ?_⟩, fun c1 => ⟨by decide, ?_⟩, fun c1 => ⟨by decide, ?_⟩, fun c1 => ⟨by decide, ?_⟩, fun c1 => ⟨by decide, ?_⟩, fun c1 => ⟨by decide, ?_⟩, fun c1 => ⟨by decide, ?_⟩, fun c1 => ⟨by decide, ?_⟩, fun c1 => ⟨by decide, ?_⟩, fun c1 => ⟨by decide, ?_⟩, fun c1 => ⟨by decide, ?_⟩, fun c1 => ⟨by decide, ?_⟩, fun c1 => ⟨by decide, ?_⟩, fun c1 => ⟨by decide, ?_⟩, fun c1 => ⟨by decide, ?_⟩, fun c1 => ⟨by decide, ?_⟩, fun c1 => ⟨by decide, ?_⟩, fun c1 => ⟨by decide, ?_⟩, fun c1 => ⟨by decide, ?_⟩, fun c1 => ⟨by decide, ?_⟩, fun c1 => ⟨by decide, ?_⟩, fun c1 => ⟨by decide, ?_⟩, fun c1 => ⟨by decide, ?_⟩, fun c1 => ⟨by decide, ?_⟩, fun c1 => ⟨by decide, ?_⟩, fun c1 => ⟨by decide, ?_⟩, fun c1 => ⟨by decide, ?_⟩, fun c1 => ⟨by decide, ?_⟩, fun c1 => ⟨by decide, ?_⟩, fun c1 => ⟨by decide, ?_⟩, trivial⟩
  · rw [if_neg (i_sw_d (v := 0) c1 (by decide)), if_neg (i_sw_d (v := 1) c1 (by decide)), if_neg (i_sw_d (v := 2) c1 (by decide)), if_neg (i_sw_d (v := 3) c1 (by decide)), if_neg (i_sw_d (v := 4) c1 (by decide)), if_neg (i_sw_d (v := 5) c1 (by decide)), if_neg (i_sw_d (v := 6) c1 (by decide)), if_neg (i_sw_d (v := 7) c1 (by decide)), if_neg (i_sw_d (v := 8) c1 (by decide)), if_neg (i_sw_d (v := 9) c1 (by decide)), if_neg (i_sw_d (v := 10) c1 (by decide)), if_neg (i_sw_d (v := 11) c1 (by decide)), if_neg (i_sw_d (v := 12) c1 (by decide)), if_neg (i_sw_d (v := 13) c1 (by decide)), if_neg (i_sw_d (v := 14) c1 (by decide)), if_neg (i_sw_d (v := 15) c1 (by decide)), if_neg (i_sw_d (v := 16) c1 (by decide)), if_neg (i_sw_d (v := 17) c1 (by decide)), if_neg (i_sw_d (v := 18) c1 (by decide)), if_neg (i_sw_d (v := 19) c1 (by decide)), if_neg (i_sw_d (v := 20) c1 (by decide)), if_neg (i_sw_d (v := 21) c1 (by decide)), if_neg (i_sw_d (v := 22) c1 (by decide)), if_neg (i_sw_d (v := 23) c1 (by decide)), if_neg (i_sw_d (v := 24) c1 (by decide)), if_neg (i_sw_d (v := 25) c1 (by decide)), if_neg (i_sw_d (v := 26) c1 (by decide)), if_neg (i_sw_d (v := 27) c1 (by decide)), if_neg (i_sw_d (v := 28) c1 (by decide)), if_neg (i_sw_d (v := 29) c1 (by decide)), if_neg (i_sw_d (v := 30) c1 (by decide)), if_neg (i_sw_d (v := 31) c1 (by decide)), if_neg (i_sw_d (v := 32) c1 (by decide))] at ho
    refine us_aload_n hR dX11_statement_385 rfl ?_
    refine us_iconstC hR dX11_statement_386 (c := 3) (by decide) ?_
    refine us_callV hR dX11_statement_387 (y := 12020) (by decide +kernel) (by decide) (J := i12020) rfl rfl rfl rfl hE.2.1 rfl (Nat.le_of_ble_eq_true rfl) (Nat.zero_le _) (Nat.zero_le _) ?_
    refine sp_12020 hE hP  (fun I2 q2 hs2 hb2 hP2 hF2 => ?_)
    rw [← hs2] at ho
    obtain ⟨s2, r2⟩ := q2
    rw [bT_eq] at ho
    have hF2 := hF.tr hF2
    refine us_iret hR dX11_statement_390 rfl (nar01 hb2) ?_
    cases ho
    exact h2 _ hb2 hP2 hF2
  · rw [if_pos (i_sw (v := 0) c1)] at ho
    refine us_aload_n hR dX11_statement_152 rfl ?_
    refine us_getIx hR dX11_statement_153 fR_12_326 hE.2.1 rfl (RepM_f hP 38) ?_
    refine us_if_ne hR dX11_statement_156 177 (by decide) (fun c3 => ?_) (fun c3 => ?_)
    · rw [if_neg c3] at ho
      refine us_aload_n hR dX11_statement_177 rfl ?_
      refine us_iconstC hR dX11_statement_178 (c := 3) (by decide) ?_
      refine us_callV hR dX11_statement_179 (y := 12020) (by decide +kernel) (by decide) (J := i12020) rfl rfl rfl rfl hE.2.1 rfl (Nat.le_of_ble_eq_true rfl) (Nat.zero_le _) (Nat.zero_le _) ?_
      refine sp_12020 hE hP  (fun I4 q4 hs4 hb4 hP4 hF4 => ?_)
      rw [← hs4] at ho
      obtain ⟨s4, r4⟩ := q4
      rw [bT_eq] at ho
      have hF4 := hF.tr hF4
      refine us_iret hR dX11_statement_182 rfl (nar01 hb4) ?_
      cases ho
      exact h2 _ hb4 hP4 hF4
    · rw [if_pos c3] at ho
      refine us_aload_n hR dX11_statement_159 rfl ?_
      refine us_bipushC hR dX11_statement_160 (c := 17) (by decide) ?_
      refine us_iconstC hR dX11_statement_162 (c := 0) (by decide) ?_
      refine us_callV hR dX11_statement_163 (y := 12021) (by decide +kernel) (by decide) (J := i12021) rfl rfl rfl rfl hE.2.1 rfl (Nat.le_of_ble_eq_true rfl) (Nat.zero_le _) (Nat.zero_le _) ?_
      obtain ⟨q5, hs5⟩ := bO_ex ho
      obtain ⟨s5, r5⟩ := q5
      replace ho := bO_go ho hs5
      refine sp_12021 hE hP  hs5 (fun I5 hP5 hF5 => ?_)
      have hF5 := hF.tr hF5
      refine us_if_ge hR dX11_statement_166 173 (by decide) (fun c6 => ?_) (fun c6 => ?_)
      · rw [if_pos c6] at ho
        refine us_iconstC hR dX11_statement_173 (c := 0) (by decide) ?_
        refine us_goto hR dX11_statement_174 182 (by decide) ?_
        refine us_iret hR dX11_statement_182 rfl (nar01 (Or.inl rfl)) ?_
        cases ho
        exact h2 _ (Or.inl rfl) hP5 hF5
      · rw [if_neg c6] at ho
        refine us_iconstC hR dX11_statement_169 (c := 1) (by decide) ?_
        refine us_goto hR dX11_statement_170 182 (by decide) ?_
        refine us_iret hR dX11_statement_182 rfl (nar01 (Or.inr rfl)) ?_
        cases ho
        exact h2 _ (Or.inr rfl) hP5 hF5
  · rw [if_neg (i_sw_x (v := 1) (w := 0) c1 (by decide)), if_pos (i_sw (v := 1) c1)] at ho
    refine us_aload_n hR dX11_statement_385 rfl ?_
    refine us_iconstC hR dX11_statement_386 (c := 3) (by decide) ?_
    refine us_callV hR dX11_statement_387 (y := 12020) (by decide +kernel) (by decide) (J := i12020) rfl rfl rfl rfl hE.2.1 rfl (Nat.le_of_ble_eq_true rfl) (Nat.zero_le _) (Nat.zero_le _) ?_
    refine sp_12020 hE hP  (fun I7 q7 hs7 hb7 hP7 hF7 => ?_)
    rw [← hs7] at ho
    obtain ⟨s7, r7⟩ := q7
    rw [bT_eq] at ho
    have hF7 := hF.tr hF7
    refine us_iret hR dX11_statement_390 rfl (nar01 hb7) ?_
    cases ho
    exact h2 _ hb7 hP7 hF7
  · rw [if_neg (i_sw_x (v := 2) (w := 0) c1 (by decide)), if_neg (i_sw_x (v := 2) (w := 1) c1 (by decide)), if_pos (i_sw (v := 2) c1)] at ho
    refine us_aload_n hR dX11_statement_203 rfl ?_
    refine us_callV hR dX11_statement_204 (y := 12041) (by decide +kernel) (by decide) (J := i12041) rfl rfl rfl rfl hE.2.1 rfl (Nat.le_of_ble_eq_true rfl) (Nat.zero_le _) (Nat.zero_le _) ?_
    obtain ⟨q8, hs8⟩ := bO_ex ho
    obtain ⟨s8, r8⟩ := q8
    replace ho := bO_go ho hs8
    refine sp_12041 hE hP  hs8 (fun I8 hb8 hP8 hF8 => ?_)
    have hF8 := hF.tr hF8
    refine us_iret hR dX11_statement_207 rfl (nar01 hb8) ?_
    cases ho
    exact h2 _ hb8 hP8 hF8
  · rw [if_neg (i_sw_x (v := 3) (w := 0) c1 (by decide)), if_neg (i_sw_x (v := 3) (w := 1) c1 (by decide)), if_neg (i_sw_x (v := 3) (w := 2) c1 (by decide)), if_pos (i_sw (v := 3) c1)] at ho
    refine us_aload_n hR dX11_statement_385 rfl ?_
    refine us_iconstC hR dX11_statement_386 (c := 3) (by decide) ?_
    refine us_callV hR dX11_statement_387 (y := 12020) (by decide +kernel) (by decide) (J := i12020) rfl rfl rfl rfl hE.2.1 rfl (Nat.le_of_ble_eq_true rfl) (Nat.zero_le _) (Nat.zero_le _) ?_
    refine sp_12020 hE hP  (fun I9 q9 hs9 hb9 hP9 hF9 => ?_)
    rw [← hs9] at ho
    obtain ⟨s9, r9⟩ := q9
    rw [bT_eq] at ho
    have hF9 := hF.tr hF9
    refine us_iret hR dX11_statement_390 rfl (nar01 hb9) ?_
    cases ho
    exact h2 _ hb9 hP9 hF9
  · rw [if_neg (i_sw_x (v := 4) (w := 0) c1 (by decide)), if_neg (i_sw_x (v := 4) (w := 1) c1 (by decide)), if_neg (i_sw_x (v := 4) (w := 2) c1 (by decide)), if_neg (i_sw_x (v := 4) (w := 3) c1 (by decide)), if_pos (i_sw (v := 4) c1)] at ho
    refine us_aload_n hR dX11_statement_267 rfl ?_
    refine us_bipushC hR dX11_statement_268 (c := 46) (by decide) ?_
    refine us_iconstC hR dX11_statement_270 (c := 0) (by decide) ?_
    refine us_callV hR dX11_statement_271 (y := 12040) (by decide +kernel) (by decide) (J := i12040) rfl rfl rfl rfl hE.2.1 rfl (Nat.le_of_ble_eq_true rfl) (Nat.zero_le _) (Nat.zero_le _) ?_
    obtain ⟨q10, hs10⟩ := bO_ex ho
    obtain ⟨s10, r10⟩ := q10
    replace ho := bO_go ho hs10
    refine sp_12040 hE hP  hs10 (fun I10 hb10 hP10 hF10 => ?_)
    have hF10 := hF.tr hF10
    refine us_if_eq hR dX11_statement_274 290 (by decide) (fun c11 => ?_) (fun c11 => ?_)
    · rw [if_pos c11] at ho
      refine us_iconstC hR dX11_statement_290 (c := 0) (by decide) ?_
      refine us_iret hR dX11_statement_291 rfl (nar01 (Or.inl rfl)) ?_
      cases ho
      exact h2 _ (Or.inl rfl) hP10 hF10
    · rw [if_neg c11] at ho
      refine us_aload_n hR dX11_statement_277 rfl ?_
      refine us_iconstC hR dX11_statement_278 (c := 4) (by decide) ?_
      refine us_iconstC hR dX11_statement_279 (c := 2) (by decide) ?_
      refine us_callV hR dX11_statement_280 (y := 12022) (by decide +kernel) (by decide) (J := i12022) rfl rfl rfl rfl hE.2.1 rfl (Nat.le_of_ble_eq_true rfl) (Nat.zero_le _) (Nat.zero_le _) ?_
      obtain ⟨q12, hs12⟩ := bO_ex ho
      obtain ⟨s12, r12⟩ := q12
      replace ho := bO_go ho hs12
      refine sp_12022 hE hP10  hs12 (fun I12 hb12 hP12 hF12 => ?_)
      have hF12 := hF10.tr hF12
      refine us_if_eq hR dX11_statement_283 290 (by decide) (fun c13 => ?_) (fun c13 => ?_)
      · rw [if_pos c13] at ho
        refine us_iconstC hR dX11_statement_290 (c := 0) (by decide) ?_
        refine us_iret hR dX11_statement_291 rfl (nar01 (Or.inl rfl)) ?_
        cases ho
        exact h2 _ (Or.inl rfl) hP12 hF12
      · rw [if_neg c13] at ho
        refine us_iconstC hR dX11_statement_286 (c := 1) (by decide) ?_
        refine us_goto hR dX11_statement_287 291 (by decide) ?_
        refine us_iret hR dX11_statement_291 rfl (nar01 (Or.inr rfl)) ?_
        cases ho
        exact h2 _ (Or.inr rfl) hP12 hF12
  · rw [if_neg (i_sw_x (v := 5) (w := 0) c1 (by decide)), if_neg (i_sw_x (v := 5) (w := 1) c1 (by decide)), if_neg (i_sw_x (v := 5) (w := 2) c1 (by decide)), if_neg (i_sw_x (v := 5) (w := 3) c1 (by decide)), if_neg (i_sw_x (v := 5) (w := 4) c1 (by decide)), if_pos (i_sw (v := 5) c1)] at ho
    refine us_aload_n hR dX11_statement_385 rfl ?_
    refine us_iconstC hR dX11_statement_386 (c := 3) (by decide) ?_
    refine us_callV hR dX11_statement_387 (y := 12020) (by decide +kernel) (by decide) (J := i12020) rfl rfl rfl rfl hE.2.1 rfl (Nat.le_of_ble_eq_true rfl) (Nat.zero_le _) (Nat.zero_le _) ?_
    refine sp_12020 hE hP  (fun I14 q14 hs14 hb14 hP14 hF14 => ?_)
    rw [← hs14] at ho
    obtain ⟨s14, r14⟩ := q14
    rw [bT_eq] at ho
    have hF14 := hF.tr hF14
    refine us_iret hR dX11_statement_390 rfl (nar01 hb14) ?_
    cases ho
    exact h2 _ hb14 hP14 hF14
  · rw [if_neg (i_sw_x (v := 6) (w := 0) c1 (by decide)), if_neg (i_sw_x (v := 6) (w := 1) c1 (by decide)), if_neg (i_sw_x (v := 6) (w := 2) c1 (by decide)), if_neg (i_sw_x (v := 6) (w := 3) c1 (by decide)), if_neg (i_sw_x (v := 6) (w := 4) c1 (by decide)), if_neg (i_sw_x (v := 6) (w := 5) c1 (by decide)), if_pos (i_sw (v := 6) c1)] at ho
    refine us_aload_n hR dX11_statement_292 rfl ?_
    refine us_bipushC hR dX11_statement_293 (c := 47) (by decide) ?_
    refine us_iconstC hR dX11_statement_295 (c := 0) (by decide) ?_
    refine us_callV hR dX11_statement_296 (y := 12040) (by decide +kernel) (by decide) (J := i12040) rfl rfl rfl rfl hE.2.1 rfl (Nat.le_of_ble_eq_true rfl) (Nat.zero_le _) (Nat.zero_le _) ?_
    obtain ⟨q15, hs15⟩ := bO_ex ho
    obtain ⟨s15, r15⟩ := q15
    replace ho := bO_go ho hs15
    refine sp_12040 hE hP  hs15 (fun I15 hb15 hP15 hF15 => ?_)
    have hF15 := hF.tr hF15
    refine us_if_eq hR dX11_statement_299 316 (by decide) (fun c16 => ?_) (fun c16 => ?_)
    · rw [if_pos c16] at ho
      refine us_iconstC hR dX11_statement_316 (c := 0) (by decide) ?_
      refine us_iret hR dX11_statement_317 rfl (nar01 (Or.inl rfl)) ?_
      cases ho
      exact h2 _ (Or.inl rfl) hP15 hF15
    · rw [if_neg c16] at ho
      refine us_aload_n hR dX11_statement_302 rfl ?_
      refine us_bipushC hR dX11_statement_303 (c := 6) (by decide) ?_
      refine us_iconstC hR dX11_statement_305 (c := 2) (by decide) ?_
      refine us_callV hR dX11_statement_306 (y := 12022) (by decide +kernel) (by decide) (J := i12022) rfl rfl rfl rfl hE.2.1 rfl (Nat.le_of_ble_eq_true rfl) (Nat.zero_le _) (Nat.zero_le _) ?_
      obtain ⟨q17, hs17⟩ := bO_ex ho
      obtain ⟨s17, r17⟩ := q17
      replace ho := bO_go ho hs17
      refine sp_12022 hE hP15  hs17 (fun I17 hb17 hP17 hF17 => ?_)
      have hF17 := hF15.tr hF17
      refine us_if_eq hR dX11_statement_309 316 (by decide) (fun c18 => ?_) (fun c18 => ?_)
      · rw [if_pos c18] at ho
        refine us_iconstC hR dX11_statement_316 (c := 0) (by decide) ?_
        refine us_iret hR dX11_statement_317 rfl (nar01 (Or.inl rfl)) ?_
        cases ho
        exact h2 _ (Or.inl rfl) hP17 hF17
      · rw [if_neg c18] at ho
        refine us_iconstC hR dX11_statement_312 (c := 1) (by decide) ?_
        refine us_goto hR dX11_statement_313 317 (by decide) ?_
        refine us_iret hR dX11_statement_317 rfl (nar01 (Or.inr rfl)) ?_
        cases ho
        exact h2 _ (Or.inr rfl) hP17 hF17
  · rw [if_neg (i_sw_x (v := 7) (w := 0) c1 (by decide)), if_neg (i_sw_x (v := 7) (w := 1) c1 (by decide)), if_neg (i_sw_x (v := 7) (w := 2) c1 (by decide)), if_neg (i_sw_x (v := 7) (w := 3) c1 (by decide)), if_neg (i_sw_x (v := 7) (w := 4) c1 (by decide)), if_neg (i_sw_x (v := 7) (w := 5) c1 (by decide)), if_neg (i_sw_x (v := 7) (w := 6) c1 (by decide)), if_pos (i_sw (v := 7) c1)] at ho
    refine us_aload_n hR dX11_statement_241 rfl ?_
    refine us_bipushC hR dX11_statement_242 (c := 44) (by decide) ?_
    refine us_iconstC hR dX11_statement_244 (c := 0) (by decide) ?_
    refine us_callV hR dX11_statement_245 (y := 12040) (by decide +kernel) (by decide) (J := i12040) rfl rfl rfl rfl hE.2.1 rfl (Nat.le_of_ble_eq_true rfl) (Nat.zero_le _) (Nat.zero_le _) ?_
    obtain ⟨q19, hs19⟩ := bO_ex ho
    obtain ⟨s19, r19⟩ := q19
    replace ho := bO_go ho hs19
    refine sp_12040 hE hP  hs19 (fun I19 hb19 hP19 hF19 => ?_)
    have hF19 := hF.tr hF19
    refine us_if_eq hR dX11_statement_248 265 (by decide) (fun c20 => ?_) (fun c20 => ?_)
    · rw [if_pos c20] at ho
      refine us_iconstC hR dX11_statement_265 (c := 0) (by decide) ?_
      refine us_iret hR dX11_statement_266 rfl (nar01 (Or.inl rfl)) ?_
      cases ho
      exact h2 _ (Or.inl rfl) hP19 hF19
    · rw [if_neg c20] at ho
      refine us_aload_n hR dX11_statement_251 rfl ?_
      refine us_bipushC hR dX11_statement_252 (c := 7) (by decide) ?_
      refine us_iconstC hR dX11_statement_254 (c := 2) (by decide) ?_
      refine us_callV hR dX11_statement_255 (y := 12022) (by decide +kernel) (by decide) (J := i12022) rfl rfl rfl rfl hE.2.1 rfl (Nat.le_of_ble_eq_true rfl) (Nat.zero_le _) (Nat.zero_le _) ?_
      obtain ⟨q21, hs21⟩ := bO_ex ho
      obtain ⟨s21, r21⟩ := q21
      replace ho := bO_go ho hs21
      refine sp_12022 hE hP19  hs21 (fun I21 hb21 hP21 hF21 => ?_)
      have hF21 := hF19.tr hF21
      refine us_if_eq hR dX11_statement_258 265 (by decide) (fun c22 => ?_) (fun c22 => ?_)
      · rw [if_pos c22] at ho
        refine us_iconstC hR dX11_statement_265 (c := 0) (by decide) ?_
        refine us_iret hR dX11_statement_266 rfl (nar01 (Or.inl rfl)) ?_
        cases ho
        exact h2 _ (Or.inl rfl) hP21 hF21
      · rw [if_neg c22] at ho
        refine us_iconstC hR dX11_statement_261 (c := 1) (by decide) ?_
        refine us_goto hR dX11_statement_262 266 (by decide) ?_
        refine us_iret hR dX11_statement_266 rfl (nar01 (Or.inr rfl)) ?_
        cases ho
        exact h2 _ (Or.inr rfl) hP21 hF21
  · rw [if_neg (i_sw_x (v := 8) (w := 0) c1 (by decide)), if_neg (i_sw_x (v := 8) (w := 1) c1 (by decide)), if_neg (i_sw_x (v := 8) (w := 2) c1 (by decide)), if_neg (i_sw_x (v := 8) (w := 3) c1 (by decide)), if_neg (i_sw_x (v := 8) (w := 4) c1 (by decide)), if_neg (i_sw_x (v := 8) (w := 5) c1 (by decide)), if_neg (i_sw_x (v := 8) (w := 6) c1 (by decide)), if_neg (i_sw_x (v := 8) (w := 7) c1 (by decide)), if_pos (i_sw (v := 8) c1)] at ho
    refine us_aload_n hR dX11_statement_385 rfl ?_
    refine us_iconstC hR dX11_statement_386 (c := 3) (by decide) ?_
    refine us_callV hR dX11_statement_387 (y := 12020) (by decide +kernel) (by decide) (J := i12020) rfl rfl rfl rfl hE.2.1 rfl (Nat.le_of_ble_eq_true rfl) (Nat.zero_le _) (Nat.zero_le _) ?_
    refine sp_12020 hE hP  (fun I23 q23 hs23 hb23 hP23 hF23 => ?_)
    rw [← hs23] at ho
    obtain ⟨s23, r23⟩ := q23
    rw [bT_eq] at ho
    have hF23 := hF.tr hF23
    refine us_iret hR dX11_statement_390 rfl (nar01 hb23) ?_
    cases ho
    exact h2 _ hb23 hP23 hF23
  · rw [if_neg (i_sw_x (v := 9) (w := 0) c1 (by decide)), if_neg (i_sw_x (v := 9) (w := 1) c1 (by decide)), if_neg (i_sw_x (v := 9) (w := 2) c1 (by decide)), if_neg (i_sw_x (v := 9) (w := 3) c1 (by decide)), if_neg (i_sw_x (v := 9) (w := 4) c1 (by decide)), if_neg (i_sw_x (v := 9) (w := 5) c1 (by decide)), if_neg (i_sw_x (v := 9) (w := 6) c1 (by decide)), if_neg (i_sw_x (v := 9) (w := 7) c1 (by decide)), if_neg (i_sw_x (v := 9) (w := 8) c1 (by decide)), if_pos (i_sw (v := 9) c1)] at ho
    refine us_aload_n hR dX11_statement_359 rfl ?_
    refine us_getIx hR dX11_statement_360 fR_12_326 hE.2.1 rfl (RepM_f hP 38) ?_
    refine us_if_le hR dX11_statement_363 372 (by decide) (fun c24 => ?_) (fun c24 => ?_)
    · rw [if_pos c24] at ho
      refine us_aload_n hR dX11_statement_372 rfl ?_
      refine us_callV hR dX11_statement_373 (y := 12023) (by decide +kernel) (by decide) (J := i12023) rfl rfl rfl rfl hE.2.1 rfl (Nat.le_of_ble_eq_true rfl) (Nat.zero_le _) (Nat.zero_le _) ?_
      obtain ⟨s25, hs25⟩ := bOv_ex ho
      replace ho := bOv_go ho hs25
      refine sp_12023 hE hP  hs25 (fun I25 hP25 hF25 => ?_)
      have hF25 := hF.tr hF25
      refine us_aload_n hR dX11_statement_376 rfl ?_
      refine us_bipushC hR dX11_statement_377 (c := 9) (by decide) ?_
      refine us_bipushC hR dX11_statement_379 (c := 8) (by decide) ?_
      refine us_callV hR dX11_statement_381 (y := 12022) (by decide +kernel) (by decide) (J := i12022) rfl rfl rfl rfl hE.2.1 rfl (Nat.le_of_ble_eq_true rfl) (Nat.zero_le _) (Nat.zero_le _) ?_
      obtain ⟨q26, hs26⟩ := bO_ex ho
      obtain ⟨s26, r26⟩ := q26
      replace ho := bO_go ho hs26
      refine sp_12022 hE hP25  hs26 (fun I26 hb26 hP26 hF26 => ?_)
      have hF26 := hF25.tr hF26
      refine us_iret hR dX11_statement_384 rfl (nar01 hb26) ?_
      cases ho
      exact h2 _ hb26 hP26 hF26
    · rw [if_neg c24] at ho
      refine us_aload_n hR dX11_statement_366 rfl ?_
      refine us_iconstC hR dX11_statement_367 (c := 3) (by decide) ?_
      refine us_callV hR dX11_statement_368 (y := 12020) (by decide +kernel) (by decide) (J := i12020) rfl rfl rfl rfl hE.2.1 rfl (Nat.le_of_ble_eq_true rfl) (Nat.zero_le _) (Nat.zero_le _) ?_
      refine sp_12020 hE hP  (fun I27 q27 hs27 hb27 hP27 hF27 => ?_)
      rw [← hs27] at ho
      obtain ⟨s27, r27⟩ := q27
      rw [bT_eq] at ho
      have hF27 := hF.tr hF27
      refine us_iret hR dX11_statement_371 rfl (nar01 hb27) ?_
      cases ho
      exact h2 _ hb27 hP27 hF27
  · rw [if_neg (i_sw_x (v := 10) (w := 0) c1 (by decide)), if_neg (i_sw_x (v := 10) (w := 1) c1 (by decide)), if_neg (i_sw_x (v := 10) (w := 2) c1 (by decide)), if_neg (i_sw_x (v := 10) (w := 3) c1 (by decide)), if_neg (i_sw_x (v := 10) (w := 4) c1 (by decide)), if_neg (i_sw_x (v := 10) (w := 5) c1 (by decide)), if_neg (i_sw_x (v := 10) (w := 6) c1 (by decide)), if_neg (i_sw_x (v := 10) (w := 7) c1 (by decide)), if_neg (i_sw_x (v := 10) (w := 8) c1 (by decide)), if_neg (i_sw_x (v := 10) (w := 9) c1 (by decide)), if_pos (i_sw (v := 10) c1)] at ho
    refine us_aload_n hR dX11_statement_318 rfl ?_
    refine us_getIx hR dX11_statement_319 fR_12_285 hE.2.1 rfl (RepM_f hP 34) ?_
    refine us_if_ne hR dX11_statement_322 333 (by decide) (fun c28 => ?_) (fun c28 => ?_)
    · rw [if_neg c28] at ho
      refine us_aload_n hR dX11_statement_333 rfl ?_
      refine us_bipushC hR dX11_statement_334 (c := 45) (by decide) ?_
      refine us_iconstC hR dX11_statement_336 (c := 0) (by decide) ?_
      refine us_callV hR dX11_statement_337 (y := 12040) (by decide +kernel) (by decide) (J := i12040) rfl rfl rfl rfl hE.2.1 rfl (Nat.le_of_ble_eq_true rfl) (Nat.zero_le _) (Nat.zero_le _) ?_
      obtain ⟨q29, hs29⟩ := bO_ex ho
      obtain ⟨s29, r29⟩ := q29
      replace ho := bO_go ho hs29
      refine sp_12040 hE hP  hs29 (fun I29 hb29 hP29 hF29 => ?_)
      have hF29 := hF.tr hF29
      refine us_if_eq hR dX11_statement_340 357 (by decide) (fun c30 => ?_) (fun c30 => ?_)
      · rw [if_pos c30] at ho
        refine us_iconstC hR dX11_statement_357 (c := 0) (by decide) ?_
        refine us_iret hR dX11_statement_358 rfl (nar01 (Or.inl rfl)) ?_
        cases ho
        exact h2 _ (Or.inl rfl) hP29 hF29
      · rw [if_neg c30] at ho
        refine us_aload_n hR dX11_statement_343 rfl ?_
        refine us_bipushC hR dX11_statement_344 (c := 10) (by decide) ?_
        refine us_iconstC hR dX11_statement_346 (c := 2) (by decide) ?_
        refine us_callV hR dX11_statement_347 (y := 12022) (by decide +kernel) (by decide) (J := i12022) rfl rfl rfl rfl hE.2.1 rfl (Nat.le_of_ble_eq_true rfl) (Nat.zero_le _) (Nat.zero_le _) ?_
        obtain ⟨q31, hs31⟩ := bO_ex ho
        obtain ⟨s31, r31⟩ := q31
        replace ho := bO_go ho hs31
        refine sp_12022 hE hP29  hs31 (fun I31 hb31 hP31 hF31 => ?_)
        have hF31 := hF29.tr hF31
        refine us_if_eq hR dX11_statement_350 357 (by decide) (fun c32 => ?_) (fun c32 => ?_)
        · rw [if_pos c32] at ho
          refine us_iconstC hR dX11_statement_357 (c := 0) (by decide) ?_
          refine us_iret hR dX11_statement_358 rfl (nar01 (Or.inl rfl)) ?_
          cases ho
          exact h2 _ (Or.inl rfl) hP31 hF31
        · rw [if_neg c32] at ho
          refine us_iconstC hR dX11_statement_353 (c := 1) (by decide) ?_
          refine us_goto hR dX11_statement_354 358 (by decide) ?_
          refine us_iret hR dX11_statement_358 rfl (nar01 (Or.inr rfl)) ?_
          cases ho
          exact h2 _ (Or.inr rfl) hP31 hF31
    · rw [if_pos c28] at ho
      refine us_aload_n hR dX11_statement_325 rfl ?_
      refine us_iconstC hR dX11_statement_326 (c := 3) (by decide) ?_
      refine us_callV hR dX11_statement_327 (y := 12020) (by decide +kernel) (by decide) (J := i12020) rfl rfl rfl rfl hE.2.1 rfl (Nat.le_of_ble_eq_true rfl) (Nat.zero_le _) (Nat.zero_le _) ?_
      refine sp_12020 hE hP  (fun I33 q33 hs33 hb33 hP33 hF33 => ?_)
      rw [← hs33] at ho
      obtain ⟨s33, r33⟩ := q33
      rw [bT_eq] at ho
      have hF33 := hF.tr hF33
      refine us_goto hR dX11_statement_330 358 (by decide) ?_
      refine us_iret hR dX11_statement_358 rfl (nar01 hb33) ?_
      cases ho
      exact h2 _ hb33 hP33 hF33
  · rw [if_neg (i_sw_x (v := 11) (w := 0) c1 (by decide)), if_neg (i_sw_x (v := 11) (w := 1) c1 (by decide)), if_neg (i_sw_x (v := 11) (w := 2) c1 (by decide)), if_neg (i_sw_x (v := 11) (w := 3) c1 (by decide)), if_neg (i_sw_x (v := 11) (w := 4) c1 (by decide)), if_neg (i_sw_x (v := 11) (w := 5) c1 (by decide)), if_neg (i_sw_x (v := 11) (w := 6) c1 (by decide)), if_neg (i_sw_x (v := 11) (w := 7) c1 (by decide)), if_neg (i_sw_x (v := 11) (w := 8) c1 (by decide)), if_neg (i_sw_x (v := 11) (w := 9) c1 (by decide)), if_neg (i_sw_x (v := 11) (w := 10) c1 (by decide)), if_pos (i_sw (v := 11) c1)] at ho
    refine us_aload_n hR dX11_statement_385 rfl ?_
    refine us_iconstC hR dX11_statement_386 (c := 3) (by decide) ?_
    refine us_callV hR dX11_statement_387 (y := 12020) (by decide +kernel) (by decide) (J := i12020) rfl rfl rfl rfl hE.2.1 rfl (Nat.le_of_ble_eq_true rfl) (Nat.zero_le _) (Nat.zero_le _) ?_
    refine sp_12020 hE hP  (fun I34 q34 hs34 hb34 hP34 hF34 => ?_)
    rw [← hs34] at ho
    obtain ⟨s34, r34⟩ := q34
    rw [bT_eq] at ho
    have hF34 := hF.tr hF34
    refine us_iret hR dX11_statement_390 rfl (nar01 hb34) ?_
    cases ho
    exact h2 _ hb34 hP34 hF34
  · rw [if_neg (i_sw_x (v := 12) (w := 0) c1 (by decide)), if_neg (i_sw_x (v := 12) (w := 1) c1 (by decide)), if_neg (i_sw_x (v := 12) (w := 2) c1 (by decide)), if_neg (i_sw_x (v := 12) (w := 3) c1 (by decide)), if_neg (i_sw_x (v := 12) (w := 4) c1 (by decide)), if_neg (i_sw_x (v := 12) (w := 5) c1 (by decide)), if_neg (i_sw_x (v := 12) (w := 6) c1 (by decide)), if_neg (i_sw_x (v := 12) (w := 7) c1 (by decide)), if_neg (i_sw_x (v := 12) (w := 8) c1 (by decide)), if_neg (i_sw_x (v := 12) (w := 9) c1 (by decide)), if_neg (i_sw_x (v := 12) (w := 10) c1 (by decide)), if_neg (i_sw_x (v := 12) (w := 11) c1 (by decide)), if_pos (i_sw (v := 12) c1)] at ho
    refine us_aload_n hR dX11_statement_385 rfl ?_
    refine us_iconstC hR dX11_statement_386 (c := 3) (by decide) ?_
    refine us_callV hR dX11_statement_387 (y := 12020) (by decide +kernel) (by decide) (J := i12020) rfl rfl rfl rfl hE.2.1 rfl (Nat.le_of_ble_eq_true rfl) (Nat.zero_le _) (Nat.zero_le _) ?_
    refine sp_12020 hE hP  (fun I35 q35 hs35 hb35 hP35 hF35 => ?_)
    rw [← hs35] at ho
    obtain ⟨s35, r35⟩ := q35
    rw [bT_eq] at ho
    have hF35 := hF.tr hF35
    refine us_iret hR dX11_statement_390 rfl (nar01 hb35) ?_
    cases ho
    exact h2 _ hb35 hP35 hF35
  · rw [if_neg (i_sw_x (v := 13) (w := 0) c1 (by decide)), if_neg (i_sw_x (v := 13) (w := 1) c1 (by decide)), if_neg (i_sw_x (v := 13) (w := 2) c1 (by decide)), if_neg (i_sw_x (v := 13) (w := 3) c1 (by decide)), if_neg (i_sw_x (v := 13) (w := 4) c1 (by decide)), if_neg (i_sw_x (v := 13) (w := 5) c1 (by decide)), if_neg (i_sw_x (v := 13) (w := 6) c1 (by decide)), if_neg (i_sw_x (v := 13) (w := 7) c1 (by decide)), if_neg (i_sw_x (v := 13) (w := 8) c1 (by decide)), if_neg (i_sw_x (v := 13) (w := 9) c1 (by decide)), if_neg (i_sw_x (v := 13) (w := 10) c1 (by decide)), if_neg (i_sw_x (v := 13) (w := 11) c1 (by decide)), if_neg (i_sw_x (v := 13) (w := 12) c1 (by decide)), if_pos (i_sw (v := 13) c1)] at ho
    refine us_aload_n hR dX11_statement_385 rfl ?_
    refine us_iconstC hR dX11_statement_386 (c := 3) (by decide) ?_
    refine us_callV hR dX11_statement_387 (y := 12020) (by decide +kernel) (by decide) (J := i12020) rfl rfl rfl rfl hE.2.1 rfl (Nat.le_of_ble_eq_true rfl) (Nat.zero_le _) (Nat.zero_le _) ?_
    refine sp_12020 hE hP  (fun I36 q36 hs36 hb36 hP36 hF36 => ?_)
    rw [← hs36] at ho
    obtain ⟨s36, r36⟩ := q36
    rw [bT_eq] at ho
    have hF36 := hF.tr hF36
    refine us_iret hR dX11_statement_390 rfl (nar01 hb36) ?_
    cases ho
    exact h2 _ hb36 hP36 hF36
  · rw [if_neg (i_sw_x (v := 14) (w := 0) c1 (by decide)), if_neg (i_sw_x (v := 14) (w := 1) c1 (by decide)), if_neg (i_sw_x (v := 14) (w := 2) c1 (by decide)), if_neg (i_sw_x (v := 14) (w := 3) c1 (by decide)), if_neg (i_sw_x (v := 14) (w := 4) c1 (by decide)), if_neg (i_sw_x (v := 14) (w := 5) c1 (by decide)), if_neg (i_sw_x (v := 14) (w := 6) c1 (by decide)), if_neg (i_sw_x (v := 14) (w := 7) c1 (by decide)), if_neg (i_sw_x (v := 14) (w := 8) c1 (by decide)), if_neg (i_sw_x (v := 14) (w := 9) c1 (by decide)), if_neg (i_sw_x (v := 14) (w := 10) c1 (by decide)), if_neg (i_sw_x (v := 14) (w := 11) c1 (by decide)), if_neg (i_sw_x (v := 14) (w := 12) c1 (by decide)), if_neg (i_sw_x (v := 14) (w := 13) c1 (by decide)), if_pos (i_sw (v := 14) c1)] at ho
    refine us_aload_n hR dX11_statement_385 rfl ?_
    refine us_iconstC hR dX11_statement_386 (c := 3) (by decide) ?_
    refine us_callV hR dX11_statement_387 (y := 12020) (by decide +kernel) (by decide) (J := i12020) rfl rfl rfl rfl hE.2.1 rfl (Nat.le_of_ble_eq_true rfl) (Nat.zero_le _) (Nat.zero_le _) ?_
    refine sp_12020 hE hP  (fun I37 q37 hs37 hb37 hP37 hF37 => ?_)
    rw [← hs37] at ho
    obtain ⟨s37, r37⟩ := q37
    rw [bT_eq] at ho
    have hF37 := hF.tr hF37
    refine us_iret hR dX11_statement_390 rfl (nar01 hb37) ?_
    cases ho
    exact h2 _ hb37 hP37 hF37
  · rw [if_neg (i_sw_x (v := 15) (w := 0) c1 (by decide)), if_neg (i_sw_x (v := 15) (w := 1) c1 (by decide)), if_neg (i_sw_x (v := 15) (w := 2) c1 (by decide)), if_neg (i_sw_x (v := 15) (w := 3) c1 (by decide)), if_neg (i_sw_x (v := 15) (w := 4) c1 (by decide)), if_neg (i_sw_x (v := 15) (w := 5) c1 (by decide)), if_neg (i_sw_x (v := 15) (w := 6) c1 (by decide)), if_neg (i_sw_x (v := 15) (w := 7) c1 (by decide)), if_neg (i_sw_x (v := 15) (w := 8) c1 (by decide)), if_neg (i_sw_x (v := 15) (w := 9) c1 (by decide)), if_neg (i_sw_x (v := 15) (w := 10) c1 (by decide)), if_neg (i_sw_x (v := 15) (w := 11) c1 (by decide)), if_neg (i_sw_x (v := 15) (w := 12) c1 (by decide)), if_neg (i_sw_x (v := 15) (w := 13) c1 (by decide)), if_neg (i_sw_x (v := 15) (w := 14) c1 (by decide)), if_pos (i_sw (v := 15) c1)] at ho
    refine us_aload_n hR dX11_statement_385 rfl ?_
    refine us_iconstC hR dX11_statement_386 (c := 3) (by decide) ?_
    refine us_callV hR dX11_statement_387 (y := 12020) (by decide +kernel) (by decide) (J := i12020) rfl rfl rfl rfl hE.2.1 rfl (Nat.le_of_ble_eq_true rfl) (Nat.zero_le _) (Nat.zero_le _) ?_
    refine sp_12020 hE hP  (fun I38 q38 hs38 hb38 hP38 hF38 => ?_)
    rw [← hs38] at ho
    obtain ⟨s38, r38⟩ := q38
    rw [bT_eq] at ho
    have hF38 := hF.tr hF38
    refine us_iret hR dX11_statement_390 rfl (nar01 hb38) ?_
    cases ho
    exact h2 _ hb38 hP38 hF38
  · rw [if_neg (i_sw_x (v := 16) (w := 0) c1 (by decide)), if_neg (i_sw_x (v := 16) (w := 1) c1 (by decide)), if_neg (i_sw_x (v := 16) (w := 2) c1 (by decide)), if_neg (i_sw_x (v := 16) (w := 3) c1 (by decide)), if_neg (i_sw_x (v := 16) (w := 4) c1 (by decide)), if_neg (i_sw_x (v := 16) (w := 5) c1 (by decide)), if_neg (i_sw_x (v := 16) (w := 6) c1 (by decide)), if_neg (i_sw_x (v := 16) (w := 7) c1 (by decide)), if_neg (i_sw_x (v := 16) (w := 8) c1 (by decide)), if_neg (i_sw_x (v := 16) (w := 9) c1 (by decide)), if_neg (i_sw_x (v := 16) (w := 10) c1 (by decide)), if_neg (i_sw_x (v := 16) (w := 11) c1 (by decide)), if_neg (i_sw_x (v := 16) (w := 12) c1 (by decide)), if_neg (i_sw_x (v := 16) (w := 13) c1 (by decide)), if_neg (i_sw_x (v := 16) (w := 14) c1 (by decide)), if_neg (i_sw_x (v := 16) (w := 15) c1 (by decide)), if_pos (i_sw (v := 16) c1)] at ho
    refine us_aload_n hR dX11_statement_385 rfl ?_
    refine us_iconstC hR dX11_statement_386 (c := 3) (by decide) ?_
    refine us_callV hR dX11_statement_387 (y := 12020) (by decide +kernel) (by decide) (J := i12020) rfl rfl rfl rfl hE.2.1 rfl (Nat.le_of_ble_eq_true rfl) (Nat.zero_le _) (Nat.zero_le _) ?_
    refine sp_12020 hE hP  (fun I39 q39 hs39 hb39 hP39 hF39 => ?_)
    rw [← hs39] at ho
    obtain ⟨s39, r39⟩ := q39
    rw [bT_eq] at ho
    have hF39 := hF.tr hF39
    refine us_iret hR dX11_statement_390 rfl (nar01 hb39) ?_
    cases ho
    exact h2 _ hb39 hP39 hF39
  · rw [if_neg (i_sw_x (v := 17) (w := 0) c1 (by decide)), if_neg (i_sw_x (v := 17) (w := 1) c1 (by decide)), if_neg (i_sw_x (v := 17) (w := 2) c1 (by decide)), if_neg (i_sw_x (v := 17) (w := 3) c1 (by decide)), if_neg (i_sw_x (v := 17) (w := 4) c1 (by decide)), if_neg (i_sw_x (v := 17) (w := 5) c1 (by decide)), if_neg (i_sw_x (v := 17) (w := 6) c1 (by decide)), if_neg (i_sw_x (v := 17) (w := 7) c1 (by decide)), if_neg (i_sw_x (v := 17) (w := 8) c1 (by decide)), if_neg (i_sw_x (v := 17) (w := 9) c1 (by decide)), if_neg (i_sw_x (v := 17) (w := 10) c1 (by decide)), if_neg (i_sw_x (v := 17) (w := 11) c1 (by decide)), if_neg (i_sw_x (v := 17) (w := 12) c1 (by decide)), if_neg (i_sw_x (v := 17) (w := 13) c1 (by decide)), if_neg (i_sw_x (v := 17) (w := 14) c1 (by decide)), if_neg (i_sw_x (v := 17) (w := 15) c1 (by decide)), if_neg (i_sw_x (v := 17) (w := 16) c1 (by decide)), if_pos (i_sw (v := 17) c1)] at ho
    refine us_aload_n hR dX11_statement_385 rfl ?_
    refine us_iconstC hR dX11_statement_386 (c := 3) (by decide) ?_
    refine us_callV hR dX11_statement_387 (y := 12020) (by decide +kernel) (by decide) (J := i12020) rfl rfl rfl rfl hE.2.1 rfl (Nat.le_of_ble_eq_true rfl) (Nat.zero_le _) (Nat.zero_le _) ?_
    refine sp_12020 hE hP  (fun I40 q40 hs40 hb40 hP40 hF40 => ?_)
    rw [← hs40] at ho
    obtain ⟨s40, r40⟩ := q40
    rw [bT_eq] at ho
    have hF40 := hF.tr hF40
    refine us_iret hR dX11_statement_390 rfl (nar01 hb40) ?_
    cases ho
    exact h2 _ hb40 hP40 hF40
  · rw [if_neg (i_sw_x (v := 18) (w := 0) c1 (by decide)), if_neg (i_sw_x (v := 18) (w := 1) c1 (by decide)), if_neg (i_sw_x (v := 18) (w := 2) c1 (by decide)), if_neg (i_sw_x (v := 18) (w := 3) c1 (by decide)), if_neg (i_sw_x (v := 18) (w := 4) c1 (by decide)), if_neg (i_sw_x (v := 18) (w := 5) c1 (by decide)), if_neg (i_sw_x (v := 18) (w := 6) c1 (by decide)), if_neg (i_sw_x (v := 18) (w := 7) c1 (by decide)), if_neg (i_sw_x (v := 18) (w := 8) c1 (by decide)), if_neg (i_sw_x (v := 18) (w := 9) c1 (by decide)), if_neg (i_sw_x (v := 18) (w := 10) c1 (by decide)), if_neg (i_sw_x (v := 18) (w := 11) c1 (by decide)), if_neg (i_sw_x (v := 18) (w := 12) c1 (by decide)), if_neg (i_sw_x (v := 18) (w := 13) c1 (by decide)), if_neg (i_sw_x (v := 18) (w := 14) c1 (by decide)), if_neg (i_sw_x (v := 18) (w := 15) c1 (by decide)), if_neg (i_sw_x (v := 18) (w := 16) c1 (by decide)), if_neg (i_sw_x (v := 18) (w := 17) c1 (by decide)), if_pos (i_sw (v := 18) c1)] at ho
    refine us_aload_n hR dX11_statement_385 rfl ?_
    refine us_iconstC hR dX11_statement_386 (c := 3) (by decide) ?_
    refine us_callV hR dX11_statement_387 (y := 12020) (by decide +kernel) (by decide) (J := i12020) rfl rfl rfl rfl hE.2.1 rfl (Nat.le_of_ble_eq_true rfl) (Nat.zero_le _) (Nat.zero_le _) ?_
    refine sp_12020 hE hP  (fun I41 q41 hs41 hb41 hP41 hF41 => ?_)
    rw [← hs41] at ho
    obtain ⟨s41, r41⟩ := q41
    rw [bT_eq] at ho
    have hF41 := hF.tr hF41
    refine us_iret hR dX11_statement_390 rfl (nar01 hb41) ?_
    cases ho
    exact h2 _ hb41 hP41 hF41
  · rw [if_neg (i_sw_x (v := 19) (w := 0) c1 (by decide)), if_neg (i_sw_x (v := 19) (w := 1) c1 (by decide)), if_neg (i_sw_x (v := 19) (w := 2) c1 (by decide)), if_neg (i_sw_x (v := 19) (w := 3) c1 (by decide)), if_neg (i_sw_x (v := 19) (w := 4) c1 (by decide)), if_neg (i_sw_x (v := 19) (w := 5) c1 (by decide)), if_neg (i_sw_x (v := 19) (w := 6) c1 (by decide)), if_neg (i_sw_x (v := 19) (w := 7) c1 (by decide)), if_neg (i_sw_x (v := 19) (w := 8) c1 (by decide)), if_neg (i_sw_x (v := 19) (w := 9) c1 (by decide)), if_neg (i_sw_x (v := 19) (w := 10) c1 (by decide)), if_neg (i_sw_x (v := 19) (w := 11) c1 (by decide)), if_neg (i_sw_x (v := 19) (w := 12) c1 (by decide)), if_neg (i_sw_x (v := 19) (w := 13) c1 (by decide)), if_neg (i_sw_x (v := 19) (w := 14) c1 (by decide)), if_neg (i_sw_x (v := 19) (w := 15) c1 (by decide)), if_neg (i_sw_x (v := 19) (w := 16) c1 (by decide)), if_neg (i_sw_x (v := 19) (w := 17) c1 (by decide)), if_neg (i_sw_x (v := 19) (w := 18) c1 (by decide)), if_pos (i_sw (v := 19) c1)] at ho
    refine us_aload_n hR dX11_statement_385 rfl ?_
    refine us_iconstC hR dX11_statement_386 (c := 3) (by decide) ?_
    refine us_callV hR dX11_statement_387 (y := 12020) (by decide +kernel) (by decide) (J := i12020) rfl rfl rfl rfl hE.2.1 rfl (Nat.le_of_ble_eq_true rfl) (Nat.zero_le _) (Nat.zero_le _) ?_
    refine sp_12020 hE hP  (fun I42 q42 hs42 hb42 hP42 hF42 => ?_)
    rw [← hs42] at ho
    obtain ⟨s42, r42⟩ := q42
    rw [bT_eq] at ho
    have hF42 := hF.tr hF42
    refine us_iret hR dX11_statement_390 rfl (nar01 hb42) ?_
    cases ho
    exact h2 _ hb42 hP42 hF42
  · rw [if_neg (i_sw_x (v := 20) (w := 0) c1 (by decide)), if_neg (i_sw_x (v := 20) (w := 1) c1 (by decide)), if_neg (i_sw_x (v := 20) (w := 2) c1 (by decide)), if_neg (i_sw_x (v := 20) (w := 3) c1 (by decide)), if_neg (i_sw_x (v := 20) (w := 4) c1 (by decide)), if_neg (i_sw_x (v := 20) (w := 5) c1 (by decide)), if_neg (i_sw_x (v := 20) (w := 6) c1 (by decide)), if_neg (i_sw_x (v := 20) (w := 7) c1 (by decide)), if_neg (i_sw_x (v := 20) (w := 8) c1 (by decide)), if_neg (i_sw_x (v := 20) (w := 9) c1 (by decide)), if_neg (i_sw_x (v := 20) (w := 10) c1 (by decide)), if_neg (i_sw_x (v := 20) (w := 11) c1 (by decide)), if_neg (i_sw_x (v := 20) (w := 12) c1 (by decide)), if_neg (i_sw_x (v := 20) (w := 13) c1 (by decide)), if_neg (i_sw_x (v := 20) (w := 14) c1 (by decide)), if_neg (i_sw_x (v := 20) (w := 15) c1 (by decide)), if_neg (i_sw_x (v := 20) (w := 16) c1 (by decide)), if_neg (i_sw_x (v := 20) (w := 17) c1 (by decide)), if_neg (i_sw_x (v := 20) (w := 18) c1 (by decide)), if_neg (i_sw_x (v := 20) (w := 19) c1 (by decide)), if_pos (i_sw (v := 20) c1)] at ho
    refine us_aload_n hR dX11_statement_385 rfl ?_
    refine us_iconstC hR dX11_statement_386 (c := 3) (by decide) ?_
    refine us_callV hR dX11_statement_387 (y := 12020) (by decide +kernel) (by decide) (J := i12020) rfl rfl rfl rfl hE.2.1 rfl (Nat.le_of_ble_eq_true rfl) (Nat.zero_le _) (Nat.zero_le _) ?_
    refine sp_12020 hE hP  (fun I43 q43 hs43 hb43 hP43 hF43 => ?_)
    rw [← hs43] at ho
    obtain ⟨s43, r43⟩ := q43
    rw [bT_eq] at ho
    have hF43 := hF.tr hF43
    refine us_iret hR dX11_statement_390 rfl (nar01 hb43) ?_
    cases ho
    exact h2 _ hb43 hP43 hF43
  · rw [if_neg (i_sw_x (v := 21) (w := 0) c1 (by decide)), if_neg (i_sw_x (v := 21) (w := 1) c1 (by decide)), if_neg (i_sw_x (v := 21) (w := 2) c1 (by decide)), if_neg (i_sw_x (v := 21) (w := 3) c1 (by decide)), if_neg (i_sw_x (v := 21) (w := 4) c1 (by decide)), if_neg (i_sw_x (v := 21) (w := 5) c1 (by decide)), if_neg (i_sw_x (v := 21) (w := 6) c1 (by decide)), if_neg (i_sw_x (v := 21) (w := 7) c1 (by decide)), if_neg (i_sw_x (v := 21) (w := 8) c1 (by decide)), if_neg (i_sw_x (v := 21) (w := 9) c1 (by decide)), if_neg (i_sw_x (v := 21) (w := 10) c1 (by decide)), if_neg (i_sw_x (v := 21) (w := 11) c1 (by decide)), if_neg (i_sw_x (v := 21) (w := 12) c1 (by decide)), if_neg (i_sw_x (v := 21) (w := 13) c1 (by decide)), if_neg (i_sw_x (v := 21) (w := 14) c1 (by decide)), if_neg (i_sw_x (v := 21) (w := 15) c1 (by decide)), if_neg (i_sw_x (v := 21) (w := 16) c1 (by decide)), if_neg (i_sw_x (v := 21) (w := 17) c1 (by decide)), if_neg (i_sw_x (v := 21) (w := 18) c1 (by decide)), if_neg (i_sw_x (v := 21) (w := 19) c1 (by decide)), if_neg (i_sw_x (v := 21) (w := 20) c1 (by decide)), if_pos (i_sw (v := 21) c1)] at ho
    refine us_aload_n hR dX11_statement_385 rfl ?_
    refine us_iconstC hR dX11_statement_386 (c := 3) (by decide) ?_
    refine us_callV hR dX11_statement_387 (y := 12020) (by decide +kernel) (by decide) (J := i12020) rfl rfl rfl rfl hE.2.1 rfl (Nat.le_of_ble_eq_true rfl) (Nat.zero_le _) (Nat.zero_le _) ?_
    refine sp_12020 hE hP  (fun I44 q44 hs44 hb44 hP44 hF44 => ?_)
    rw [← hs44] at ho
    obtain ⟨s44, r44⟩ := q44
    rw [bT_eq] at ho
    have hF44 := hF.tr hF44
    refine us_iret hR dX11_statement_390 rfl (nar01 hb44) ?_
    cases ho
    exact h2 _ hb44 hP44 hF44
  · rw [if_neg (i_sw_x (v := 22) (w := 0) c1 (by decide)), if_neg (i_sw_x (v := 22) (w := 1) c1 (by decide)), if_neg (i_sw_x (v := 22) (w := 2) c1 (by decide)), if_neg (i_sw_x (v := 22) (w := 3) c1 (by decide)), if_neg (i_sw_x (v := 22) (w := 4) c1 (by decide)), if_neg (i_sw_x (v := 22) (w := 5) c1 (by decide)), if_neg (i_sw_x (v := 22) (w := 6) c1 (by decide)), if_neg (i_sw_x (v := 22) (w := 7) c1 (by decide)), if_neg (i_sw_x (v := 22) (w := 8) c1 (by decide)), if_neg (i_sw_x (v := 22) (w := 9) c1 (by decide)), if_neg (i_sw_x (v := 22) (w := 10) c1 (by decide)), if_neg (i_sw_x (v := 22) (w := 11) c1 (by decide)), if_neg (i_sw_x (v := 22) (w := 12) c1 (by decide)), if_neg (i_sw_x (v := 22) (w := 13) c1 (by decide)), if_neg (i_sw_x (v := 22) (w := 14) c1 (by decide)), if_neg (i_sw_x (v := 22) (w := 15) c1 (by decide)), if_neg (i_sw_x (v := 22) (w := 16) c1 (by decide)), if_neg (i_sw_x (v := 22) (w := 17) c1 (by decide)), if_neg (i_sw_x (v := 22) (w := 18) c1 (by decide)), if_neg (i_sw_x (v := 22) (w := 19) c1 (by decide)), if_neg (i_sw_x (v := 22) (w := 20) c1 (by decide)), if_neg (i_sw_x (v := 22) (w := 21) c1 (by decide)), if_pos (i_sw (v := 22) c1)] at ho
    refine us_aload_n hR dX11_statement_385 rfl ?_
    refine us_iconstC hR dX11_statement_386 (c := 3) (by decide) ?_
    refine us_callV hR dX11_statement_387 (y := 12020) (by decide +kernel) (by decide) (J := i12020) rfl rfl rfl rfl hE.2.1 rfl (Nat.le_of_ble_eq_true rfl) (Nat.zero_le _) (Nat.zero_le _) ?_
    refine sp_12020 hE hP  (fun I45 q45 hs45 hb45 hP45 hF45 => ?_)
    rw [← hs45] at ho
    obtain ⟨s45, r45⟩ := q45
    rw [bT_eq] at ho
    have hF45 := hF.tr hF45
    refine us_iret hR dX11_statement_390 rfl (nar01 hb45) ?_
    cases ho
    exact h2 _ hb45 hP45 hF45
  · rw [if_neg (i_sw_x (v := 23) (w := 0) c1 (by decide)), if_neg (i_sw_x (v := 23) (w := 1) c1 (by decide)), if_neg (i_sw_x (v := 23) (w := 2) c1 (by decide)), if_neg (i_sw_x (v := 23) (w := 3) c1 (by decide)), if_neg (i_sw_x (v := 23) (w := 4) c1 (by decide)), if_neg (i_sw_x (v := 23) (w := 5) c1 (by decide)), if_neg (i_sw_x (v := 23) (w := 6) c1 (by decide)), if_neg (i_sw_x (v := 23) (w := 7) c1 (by decide)), if_neg (i_sw_x (v := 23) (w := 8) c1 (by decide)), if_neg (i_sw_x (v := 23) (w := 9) c1 (by decide)), if_neg (i_sw_x (v := 23) (w := 10) c1 (by decide)), if_neg (i_sw_x (v := 23) (w := 11) c1 (by decide)), if_neg (i_sw_x (v := 23) (w := 12) c1 (by decide)), if_neg (i_sw_x (v := 23) (w := 13) c1 (by decide)), if_neg (i_sw_x (v := 23) (w := 14) c1 (by decide)), if_neg (i_sw_x (v := 23) (w := 15) c1 (by decide)), if_neg (i_sw_x (v := 23) (w := 16) c1 (by decide)), if_neg (i_sw_x (v := 23) (w := 17) c1 (by decide)), if_neg (i_sw_x (v := 23) (w := 18) c1 (by decide)), if_neg (i_sw_x (v := 23) (w := 19) c1 (by decide)), if_neg (i_sw_x (v := 23) (w := 20) c1 (by decide)), if_neg (i_sw_x (v := 23) (w := 21) c1 (by decide)), if_neg (i_sw_x (v := 23) (w := 22) c1 (by decide)), if_pos (i_sw (v := 23) c1)] at ho
    refine us_aload_n hR dX11_statement_385 rfl ?_
    refine us_iconstC hR dX11_statement_386 (c := 3) (by decide) ?_
    refine us_callV hR dX11_statement_387 (y := 12020) (by decide +kernel) (by decide) (J := i12020) rfl rfl rfl rfl hE.2.1 rfl (Nat.le_of_ble_eq_true rfl) (Nat.zero_le _) (Nat.zero_le _) ?_
    refine sp_12020 hE hP  (fun I46 q46 hs46 hb46 hP46 hF46 => ?_)
    rw [← hs46] at ho
    obtain ⟨s46, r46⟩ := q46
    rw [bT_eq] at ho
    have hF46 := hF.tr hF46
    refine us_iret hR dX11_statement_390 rfl (nar01 hb46) ?_
    cases ho
    exact h2 _ hb46 hP46 hF46
  · rw [if_neg (i_sw_x (v := 24) (w := 0) c1 (by decide)), if_neg (i_sw_x (v := 24) (w := 1) c1 (by decide)), if_neg (i_sw_x (v := 24) (w := 2) c1 (by decide)), if_neg (i_sw_x (v := 24) (w := 3) c1 (by decide)), if_neg (i_sw_x (v := 24) (w := 4) c1 (by decide)), if_neg (i_sw_x (v := 24) (w := 5) c1 (by decide)), if_neg (i_sw_x (v := 24) (w := 6) c1 (by decide)), if_neg (i_sw_x (v := 24) (w := 7) c1 (by decide)), if_neg (i_sw_x (v := 24) (w := 8) c1 (by decide)), if_neg (i_sw_x (v := 24) (w := 9) c1 (by decide)), if_neg (i_sw_x (v := 24) (w := 10) c1 (by decide)), if_neg (i_sw_x (v := 24) (w := 11) c1 (by decide)), if_neg (i_sw_x (v := 24) (w := 12) c1 (by decide)), if_neg (i_sw_x (v := 24) (w := 13) c1 (by decide)), if_neg (i_sw_x (v := 24) (w := 14) c1 (by decide)), if_neg (i_sw_x (v := 24) (w := 15) c1 (by decide)), if_neg (i_sw_x (v := 24) (w := 16) c1 (by decide)), if_neg (i_sw_x (v := 24) (w := 17) c1 (by decide)), if_neg (i_sw_x (v := 24) (w := 18) c1 (by decide)), if_neg (i_sw_x (v := 24) (w := 19) c1 (by decide)), if_neg (i_sw_x (v := 24) (w := 20) c1 (by decide)), if_neg (i_sw_x (v := 24) (w := 21) c1 (by decide)), if_neg (i_sw_x (v := 24) (w := 22) c1 (by decide)), if_neg (i_sw_x (v := 24) (w := 23) c1 (by decide)), if_pos (i_sw (v := 24) c1)] at ho
    refine us_aload_n hR dX11_statement_385 rfl ?_
    refine us_iconstC hR dX11_statement_386 (c := 3) (by decide) ?_
    refine us_callV hR dX11_statement_387 (y := 12020) (by decide +kernel) (by decide) (J := i12020) rfl rfl rfl rfl hE.2.1 rfl (Nat.le_of_ble_eq_true rfl) (Nat.zero_le _) (Nat.zero_le _) ?_
    refine sp_12020 hE hP  (fun I47 q47 hs47 hb47 hP47 hF47 => ?_)
    rw [← hs47] at ho
    obtain ⟨s47, r47⟩ := q47
    rw [bT_eq] at ho
    have hF47 := hF.tr hF47
    refine us_iret hR dX11_statement_390 rfl (nar01 hb47) ?_
    cases ho
    exact h2 _ hb47 hP47 hF47
  · rw [if_neg (i_sw_x (v := 25) (w := 0) c1 (by decide)), if_neg (i_sw_x (v := 25) (w := 1) c1 (by decide)), if_neg (i_sw_x (v := 25) (w := 2) c1 (by decide)), if_neg (i_sw_x (v := 25) (w := 3) c1 (by decide)), if_neg (i_sw_x (v := 25) (w := 4) c1 (by decide)), if_neg (i_sw_x (v := 25) (w := 5) c1 (by decide)), if_neg (i_sw_x (v := 25) (w := 6) c1 (by decide)), if_neg (i_sw_x (v := 25) (w := 7) c1 (by decide)), if_neg (i_sw_x (v := 25) (w := 8) c1 (by decide)), if_neg (i_sw_x (v := 25) (w := 9) c1 (by decide)), if_neg (i_sw_x (v := 25) (w := 10) c1 (by decide)), if_neg (i_sw_x (v := 25) (w := 11) c1 (by decide)), if_neg (i_sw_x (v := 25) (w := 12) c1 (by decide)), if_neg (i_sw_x (v := 25) (w := 13) c1 (by decide)), if_neg (i_sw_x (v := 25) (w := 14) c1 (by decide)), if_neg (i_sw_x (v := 25) (w := 15) c1 (by decide)), if_neg (i_sw_x (v := 25) (w := 16) c1 (by decide)), if_neg (i_sw_x (v := 25) (w := 17) c1 (by decide)), if_neg (i_sw_x (v := 25) (w := 18) c1 (by decide)), if_neg (i_sw_x (v := 25) (w := 19) c1 (by decide)), if_neg (i_sw_x (v := 25) (w := 20) c1 (by decide)), if_neg (i_sw_x (v := 25) (w := 21) c1 (by decide)), if_neg (i_sw_x (v := 25) (w := 22) c1 (by decide)), if_neg (i_sw_x (v := 25) (w := 23) c1 (by decide)), if_neg (i_sw_x (v := 25) (w := 24) c1 (by decide)), if_pos (i_sw (v := 25) c1)] at ho
    refine us_aload_n hR dX11_statement_385 rfl ?_
    refine us_iconstC hR dX11_statement_386 (c := 3) (by decide) ?_
    refine us_callV hR dX11_statement_387 (y := 12020) (by decide +kernel) (by decide) (J := i12020) rfl rfl rfl rfl hE.2.1 rfl (Nat.le_of_ble_eq_true rfl) (Nat.zero_le _) (Nat.zero_le _) ?_
    refine sp_12020 hE hP  (fun I48 q48 hs48 hb48 hP48 hF48 => ?_)
    rw [← hs48] at ho
    obtain ⟨s48, r48⟩ := q48
    rw [bT_eq] at ho
    have hF48 := hF.tr hF48
    refine us_iret hR dX11_statement_390 rfl (nar01 hb48) ?_
    cases ho
    exact h2 _ hb48 hP48 hF48
  · rw [if_neg (i_sw_x (v := 26) (w := 0) c1 (by decide)), if_neg (i_sw_x (v := 26) (w := 1) c1 (by decide)), if_neg (i_sw_x (v := 26) (w := 2) c1 (by decide)), if_neg (i_sw_x (v := 26) (w := 3) c1 (by decide)), if_neg (i_sw_x (v := 26) (w := 4) c1 (by decide)), if_neg (i_sw_x (v := 26) (w := 5) c1 (by decide)), if_neg (i_sw_x (v := 26) (w := 6) c1 (by decide)), if_neg (i_sw_x (v := 26) (w := 7) c1 (by decide)), if_neg (i_sw_x (v := 26) (w := 8) c1 (by decide)), if_neg (i_sw_x (v := 26) (w := 9) c1 (by decide)), if_neg (i_sw_x (v := 26) (w := 10) c1 (by decide)), if_neg (i_sw_x (v := 26) (w := 11) c1 (by decide)), if_neg (i_sw_x (v := 26) (w := 12) c1 (by decide)), if_neg (i_sw_x (v := 26) (w := 13) c1 (by decide)), if_neg (i_sw_x (v := 26) (w := 14) c1 (by decide)), if_neg (i_sw_x (v := 26) (w := 15) c1 (by decide)), if_neg (i_sw_x (v := 26) (w := 16) c1 (by decide)), if_neg (i_sw_x (v := 26) (w := 17) c1 (by decide)), if_neg (i_sw_x (v := 26) (w := 18) c1 (by decide)), if_neg (i_sw_x (v := 26) (w := 19) c1 (by decide)), if_neg (i_sw_x (v := 26) (w := 20) c1 (by decide)), if_neg (i_sw_x (v := 26) (w := 21) c1 (by decide)), if_neg (i_sw_x (v := 26) (w := 22) c1 (by decide)), if_neg (i_sw_x (v := 26) (w := 23) c1 (by decide)), if_neg (i_sw_x (v := 26) (w := 24) c1 (by decide)), if_neg (i_sw_x (v := 26) (w := 25) c1 (by decide)), if_pos (i_sw (v := 26) c1)] at ho
    refine us_aload_n hR dX11_statement_385 rfl ?_
    refine us_iconstC hR dX11_statement_386 (c := 3) (by decide) ?_
    refine us_callV hR dX11_statement_387 (y := 12020) (by decide +kernel) (by decide) (J := i12020) rfl rfl rfl rfl hE.2.1 rfl (Nat.le_of_ble_eq_true rfl) (Nat.zero_le _) (Nat.zero_le _) ?_
    refine sp_12020 hE hP  (fun I49 q49 hs49 hb49 hP49 hF49 => ?_)
    rw [← hs49] at ho
    obtain ⟨s49, r49⟩ := q49
    rw [bT_eq] at ho
    have hF49 := hF.tr hF49
    refine us_iret hR dX11_statement_390 rfl (nar01 hb49) ?_
    cases ho
    exact h2 _ hb49 hP49 hF49
  · rw [if_neg (i_sw_x (v := 27) (w := 0) c1 (by decide)), if_neg (i_sw_x (v := 27) (w := 1) c1 (by decide)), if_neg (i_sw_x (v := 27) (w := 2) c1 (by decide)), if_neg (i_sw_x (v := 27) (w := 3) c1 (by decide)), if_neg (i_sw_x (v := 27) (w := 4) c1 (by decide)), if_neg (i_sw_x (v := 27) (w := 5) c1 (by decide)), if_neg (i_sw_x (v := 27) (w := 6) c1 (by decide)), if_neg (i_sw_x (v := 27) (w := 7) c1 (by decide)), if_neg (i_sw_x (v := 27) (w := 8) c1 (by decide)), if_neg (i_sw_x (v := 27) (w := 9) c1 (by decide)), if_neg (i_sw_x (v := 27) (w := 10) c1 (by decide)), if_neg (i_sw_x (v := 27) (w := 11) c1 (by decide)), if_neg (i_sw_x (v := 27) (w := 12) c1 (by decide)), if_neg (i_sw_x (v := 27) (w := 13) c1 (by decide)), if_neg (i_sw_x (v := 27) (w := 14) c1 (by decide)), if_neg (i_sw_x (v := 27) (w := 15) c1 (by decide)), if_neg (i_sw_x (v := 27) (w := 16) c1 (by decide)), if_neg (i_sw_x (v := 27) (w := 17) c1 (by decide)), if_neg (i_sw_x (v := 27) (w := 18) c1 (by decide)), if_neg (i_sw_x (v := 27) (w := 19) c1 (by decide)), if_neg (i_sw_x (v := 27) (w := 20) c1 (by decide)), if_neg (i_sw_x (v := 27) (w := 21) c1 (by decide)), if_neg (i_sw_x (v := 27) (w := 22) c1 (by decide)), if_neg (i_sw_x (v := 27) (w := 23) c1 (by decide)), if_neg (i_sw_x (v := 27) (w := 24) c1 (by decide)), if_neg (i_sw_x (v := 27) (w := 25) c1 (by decide)), if_neg (i_sw_x (v := 27) (w := 26) c1 (by decide)), if_pos (i_sw (v := 27) c1)] at ho
    refine us_aload_n hR dX11_statement_385 rfl ?_
    refine us_iconstC hR dX11_statement_386 (c := 3) (by decide) ?_
    refine us_callV hR dX11_statement_387 (y := 12020) (by decide +kernel) (by decide) (J := i12020) rfl rfl rfl rfl hE.2.1 rfl (Nat.le_of_ble_eq_true rfl) (Nat.zero_le _) (Nat.zero_le _) ?_
    refine sp_12020 hE hP  (fun I50 q50 hs50 hb50 hP50 hF50 => ?_)
    rw [← hs50] at ho
    obtain ⟨s50, r50⟩ := q50
    rw [bT_eq] at ho
    have hF50 := hF.tr hF50
    refine us_iret hR dX11_statement_390 rfl (nar01 hb50) ?_
    cases ho
    exact h2 _ hb50 hP50 hF50
  · rw [if_neg (i_sw_x (v := 28) (w := 0) c1 (by decide)), if_neg (i_sw_x (v := 28) (w := 1) c1 (by decide)), if_neg (i_sw_x (v := 28) (w := 2) c1 (by decide)), if_neg (i_sw_x (v := 28) (w := 3) c1 (by decide)), if_neg (i_sw_x (v := 28) (w := 4) c1 (by decide)), if_neg (i_sw_x (v := 28) (w := 5) c1 (by decide)), if_neg (i_sw_x (v := 28) (w := 6) c1 (by decide)), if_neg (i_sw_x (v := 28) (w := 7) c1 (by decide)), if_neg (i_sw_x (v := 28) (w := 8) c1 (by decide)), if_neg (i_sw_x (v := 28) (w := 9) c1 (by decide)), if_neg (i_sw_x (v := 28) (w := 10) c1 (by decide)), if_neg (i_sw_x (v := 28) (w := 11) c1 (by decide)), if_neg (i_sw_x (v := 28) (w := 12) c1 (by decide)), if_neg (i_sw_x (v := 28) (w := 13) c1 (by decide)), if_neg (i_sw_x (v := 28) (w := 14) c1 (by decide)), if_neg (i_sw_x (v := 28) (w := 15) c1 (by decide)), if_neg (i_sw_x (v := 28) (w := 16) c1 (by decide)), if_neg (i_sw_x (v := 28) (w := 17) c1 (by decide)), if_neg (i_sw_x (v := 28) (w := 18) c1 (by decide)), if_neg (i_sw_x (v := 28) (w := 19) c1 (by decide)), if_neg (i_sw_x (v := 28) (w := 20) c1 (by decide)), if_neg (i_sw_x (v := 28) (w := 21) c1 (by decide)), if_neg (i_sw_x (v := 28) (w := 22) c1 (by decide)), if_neg (i_sw_x (v := 28) (w := 23) c1 (by decide)), if_neg (i_sw_x (v := 28) (w := 24) c1 (by decide)), if_neg (i_sw_x (v := 28) (w := 25) c1 (by decide)), if_neg (i_sw_x (v := 28) (w := 26) c1 (by decide)), if_neg (i_sw_x (v := 28) (w := 27) c1 (by decide)), if_pos (i_sw (v := 28) c1)] at ho
    refine us_aload_n hR dX11_statement_385 rfl ?_
    refine us_iconstC hR dX11_statement_386 (c := 3) (by decide) ?_
    refine us_callV hR dX11_statement_387 (y := 12020) (by decide +kernel) (by decide) (J := i12020) rfl rfl rfl rfl hE.2.1 rfl (Nat.le_of_ble_eq_true rfl) (Nat.zero_le _) (Nat.zero_le _) ?_
    refine sp_12020 hE hP  (fun I51 q51 hs51 hb51 hP51 hF51 => ?_)
    rw [← hs51] at ho
    obtain ⟨s51, r51⟩ := q51
    rw [bT_eq] at ho
    have hF51 := hF.tr hF51
    refine us_iret hR dX11_statement_390 rfl (nar01 hb51) ?_
    cases ho
    exact h2 _ hb51 hP51 hF51
  · rw [if_neg (i_sw_x (v := 29) (w := 0) c1 (by decide)), if_neg (i_sw_x (v := 29) (w := 1) c1 (by decide)), if_neg (i_sw_x (v := 29) (w := 2) c1 (by decide)), if_neg (i_sw_x (v := 29) (w := 3) c1 (by decide)), if_neg (i_sw_x (v := 29) (w := 4) c1 (by decide)), if_neg (i_sw_x (v := 29) (w := 5) c1 (by decide)), if_neg (i_sw_x (v := 29) (w := 6) c1 (by decide)), if_neg (i_sw_x (v := 29) (w := 7) c1 (by decide)), if_neg (i_sw_x (v := 29) (w := 8) c1 (by decide)), if_neg (i_sw_x (v := 29) (w := 9) c1 (by decide)), if_neg (i_sw_x (v := 29) (w := 10) c1 (by decide)), if_neg (i_sw_x (v := 29) (w := 11) c1 (by decide)), if_neg (i_sw_x (v := 29) (w := 12) c1 (by decide)), if_neg (i_sw_x (v := 29) (w := 13) c1 (by decide)), if_neg (i_sw_x (v := 29) (w := 14) c1 (by decide)), if_neg (i_sw_x (v := 29) (w := 15) c1 (by decide)), if_neg (i_sw_x (v := 29) (w := 16) c1 (by decide)), if_neg (i_sw_x (v := 29) (w := 17) c1 (by decide)), if_neg (i_sw_x (v := 29) (w := 18) c1 (by decide)), if_neg (i_sw_x (v := 29) (w := 19) c1 (by decide)), if_neg (i_sw_x (v := 29) (w := 20) c1 (by decide)), if_neg (i_sw_x (v := 29) (w := 21) c1 (by decide)), if_neg (i_sw_x (v := 29) (w := 22) c1 (by decide)), if_neg (i_sw_x (v := 29) (w := 23) c1 (by decide)), if_neg (i_sw_x (v := 29) (w := 24) c1 (by decide)), if_neg (i_sw_x (v := 29) (w := 25) c1 (by decide)), if_neg (i_sw_x (v := 29) (w := 26) c1 (by decide)), if_neg (i_sw_x (v := 29) (w := 27) c1 (by decide)), if_neg (i_sw_x (v := 29) (w := 28) c1 (by decide)), if_pos (i_sw (v := 29) c1)] at ho
    refine us_aload_n hR dX11_statement_183 rfl ?_
    refine us_getIx hR dX11_statement_184 fR_12_326 hE.2.1 rfl (RepM_f hP 38) ?_
    refine us_if_le hR dX11_statement_187 197 (by decide) (fun c52 => ?_) (fun c52 => ?_)
    · rw [if_pos c52] at ho
      refine us_aload_n hR dX11_statement_197 rfl ?_
      refine us_iconstC hR dX11_statement_198 (c := 3) (by decide) ?_
      refine us_callV hR dX11_statement_199 (y := 12020) (by decide +kernel) (by decide) (J := i12020) rfl rfl rfl rfl hE.2.1 rfl (Nat.le_of_ble_eq_true rfl) (Nat.zero_le _) (Nat.zero_le _) ?_
      refine sp_12020 hE hP  (fun I53 q53 hs53 hb53 hP53 hF53 => ?_)
      rw [← hs53] at ho
      obtain ⟨s53, r53⟩ := q53
      rw [bT_eq] at ho
      have hF53 := hF.tr hF53
      refine us_iret hR dX11_statement_202 rfl (nar01 hb53) ?_
      cases ho
      exact h2 _ hb53 hP53 hF53
    · rw [if_neg c52] at ho
      refine us_aload_n hR dX11_statement_190 rfl ?_
      refine us_callV hR dX11_statement_191 (y := 12038) (by decide +kernel) (by decide) (J := i12038) rfl rfl rfl rfl hE.2.1 rfl (Nat.le_of_ble_eq_true rfl) (Nat.zero_le _) (Nat.zero_le _) ?_
      obtain ⟨q54, hs54⟩ := bO_ex ho
      obtain ⟨s54, r54⟩ := q54
      replace ho := bO_go ho hs54
      refine sp_12038 hE hP  hs54 (fun I54 hb54 hP54 hF54 => ?_)
      have hF54 := hF.tr hF54
      refine us_goto hR dX11_statement_194 202 (by decide) ?_
      refine us_iret hR dX11_statement_202 rfl (nar01 hb54) ?_
      cases ho
      exact h2 _ hb54 hP54 hF54
  · rw [if_neg (i_sw_x (v := 30) (w := 0) c1 (by decide)), if_neg (i_sw_x (v := 30) (w := 1) c1 (by decide)), if_neg (i_sw_x (v := 30) (w := 2) c1 (by decide)), if_neg (i_sw_x (v := 30) (w := 3) c1 (by decide)), if_neg (i_sw_x (v := 30) (w := 4) c1 (by decide)), if_neg (i_sw_x (v := 30) (w := 5) c1 (by decide)), if_neg (i_sw_x (v := 30) (w := 6) c1 (by decide)), if_neg (i_sw_x (v := 30) (w := 7) c1 (by decide)), if_neg (i_sw_x (v := 30) (w := 8) c1 (by decide)), if_neg (i_sw_x (v := 30) (w := 9) c1 (by decide)), if_neg (i_sw_x (v := 30) (w := 10) c1 (by decide)), if_neg (i_sw_x (v := 30) (w := 11) c1 (by decide)), if_neg (i_sw_x (v := 30) (w := 12) c1 (by decide)), if_neg (i_sw_x (v := 30) (w := 13) c1 (by decide)), if_neg (i_sw_x (v := 30) (w := 14) c1 (by decide)), if_neg (i_sw_x (v := 30) (w := 15) c1 (by decide)), if_neg (i_sw_x (v := 30) (w := 16) c1 (by decide)), if_neg (i_sw_x (v := 30) (w := 17) c1 (by decide)), if_neg (i_sw_x (v := 30) (w := 18) c1 (by decide)), if_neg (i_sw_x (v := 30) (w := 19) c1 (by decide)), if_neg (i_sw_x (v := 30) (w := 20) c1 (by decide)), if_neg (i_sw_x (v := 30) (w := 21) c1 (by decide)), if_neg (i_sw_x (v := 30) (w := 22) c1 (by decide)), if_neg (i_sw_x (v := 30) (w := 23) c1 (by decide)), if_neg (i_sw_x (v := 30) (w := 24) c1 (by decide)), if_neg (i_sw_x (v := 30) (w := 25) c1 (by decide)), if_neg (i_sw_x (v := 30) (w := 26) c1 (by decide)), if_neg (i_sw_x (v := 30) (w := 27) c1 (by decide)), if_neg (i_sw_x (v := 30) (w := 28) c1 (by decide)), if_neg (i_sw_x (v := 30) (w := 29) c1 (by decide)), if_pos (i_sw (v := 30) c1)] at ho
    refine us_aload_n hR dX11_statement_385 rfl ?_
    refine us_iconstC hR dX11_statement_386 (c := 3) (by decide) ?_
    refine us_callV hR dX11_statement_387 (y := 12020) (by decide +kernel) (by decide) (J := i12020) rfl rfl rfl rfl hE.2.1 rfl (Nat.le_of_ble_eq_true rfl) (Nat.zero_le _) (Nat.zero_le _) ?_
    refine sp_12020 hE hP  (fun I55 q55 hs55 hb55 hP55 hF55 => ?_)
    rw [← hs55] at ho
    obtain ⟨s55, r55⟩ := q55
    rw [bT_eq] at ho
    have hF55 := hF.tr hF55
    refine us_iret hR dX11_statement_390 rfl (nar01 hb55) ?_
    cases ho
    exact h2 _ hb55 hP55 hF55
  · rw [if_neg (i_sw_x (v := 31) (w := 0) c1 (by decide)), if_neg (i_sw_x (v := 31) (w := 1) c1 (by decide)), if_neg (i_sw_x (v := 31) (w := 2) c1 (by decide)), if_neg (i_sw_x (v := 31) (w := 3) c1 (by decide)), if_neg (i_sw_x (v := 31) (w := 4) c1 (by decide)), if_neg (i_sw_x (v := 31) (w := 5) c1 (by decide)), if_neg (i_sw_x (v := 31) (w := 6) c1 (by decide)), if_neg (i_sw_x (v := 31) (w := 7) c1 (by decide)), if_neg (i_sw_x (v := 31) (w := 8) c1 (by decide)), if_neg (i_sw_x (v := 31) (w := 9) c1 (by decide)), if_neg (i_sw_x (v := 31) (w := 10) c1 (by decide)), if_neg (i_sw_x (v := 31) (w := 11) c1 (by decide)), if_neg (i_sw_x (v := 31) (w := 12) c1 (by decide)), if_neg (i_sw_x (v := 31) (w := 13) c1 (by decide)), if_neg (i_sw_x (v := 31) (w := 14) c1 (by decide)), if_neg (i_sw_x (v := 31) (w := 15) c1 (by decide)), if_neg (i_sw_x (v := 31) (w := 16) c1 (by decide)), if_neg (i_sw_x (v := 31) (w := 17) c1 (by decide)), if_neg (i_sw_x (v := 31) (w := 18) c1 (by decide)), if_neg (i_sw_x (v := 31) (w := 19) c1 (by decide)), if_neg (i_sw_x (v := 31) (w := 20) c1 (by decide)), if_neg (i_sw_x (v := 31) (w := 21) c1 (by decide)), if_neg (i_sw_x (v := 31) (w := 22) c1 (by decide)), if_neg (i_sw_x (v := 31) (w := 23) c1 (by decide)), if_neg (i_sw_x (v := 31) (w := 24) c1 (by decide)), if_neg (i_sw_x (v := 31) (w := 25) c1 (by decide)), if_neg (i_sw_x (v := 31) (w := 26) c1 (by decide)), if_neg (i_sw_x (v := 31) (w := 27) c1 (by decide)), if_neg (i_sw_x (v := 31) (w := 28) c1 (by decide)), if_neg (i_sw_x (v := 31) (w := 29) c1 (by decide)), if_neg (i_sw_x (v := 31) (w := 30) c1 (by decide)), if_pos (i_sw (v := 31) c1)] at ho
    refine us_aload_n hR dX11_statement_385 rfl ?_
    refine us_iconstC hR dX11_statement_386 (c := 3) (by decide) ?_
    refine us_callV hR dX11_statement_387 (y := 12020) (by decide +kernel) (by decide) (J := i12020) rfl rfl rfl rfl hE.2.1 rfl (Nat.le_of_ble_eq_true rfl) (Nat.zero_le _) (Nat.zero_le _) ?_
    refine sp_12020 hE hP  (fun I56 q56 hs56 hb56 hP56 hF56 => ?_)
    rw [← hs56] at ho
    obtain ⟨s56, r56⟩ := q56
    rw [bT_eq] at ho
    have hF56 := hF.tr hF56
    refine us_iret hR dX11_statement_390 rfl (nar01 hb56) ?_
    cases ho
    exact h2 _ hb56 hP56 hF56
  · rw [if_neg (i_sw_x (v := 32) (w := 0) c1 (by decide)), if_neg (i_sw_x (v := 32) (w := 1) c1 (by decide)), if_neg (i_sw_x (v := 32) (w := 2) c1 (by decide)), if_neg (i_sw_x (v := 32) (w := 3) c1 (by decide)), if_neg (i_sw_x (v := 32) (w := 4) c1 (by decide)), if_neg (i_sw_x (v := 32) (w := 5) c1 (by decide)), if_neg (i_sw_x (v := 32) (w := 6) c1 (by decide)), if_neg (i_sw_x (v := 32) (w := 7) c1 (by decide)), if_neg (i_sw_x (v := 32) (w := 8) c1 (by decide)), if_neg (i_sw_x (v := 32) (w := 9) c1 (by decide)), if_neg (i_sw_x (v := 32) (w := 10) c1 (by decide)), if_neg (i_sw_x (v := 32) (w := 11) c1 (by decide)), if_neg (i_sw_x (v := 32) (w := 12) c1 (by decide)), if_neg (i_sw_x (v := 32) (w := 13) c1 (by decide)), if_neg (i_sw_x (v := 32) (w := 14) c1 (by decide)), if_neg (i_sw_x (v := 32) (w := 15) c1 (by decide)), if_neg (i_sw_x (v := 32) (w := 16) c1 (by decide)), if_neg (i_sw_x (v := 32) (w := 17) c1 (by decide)), if_neg (i_sw_x (v := 32) (w := 18) c1 (by decide)), if_neg (i_sw_x (v := 32) (w := 19) c1 (by decide)), if_neg (i_sw_x (v := 32) (w := 20) c1 (by decide)), if_neg (i_sw_x (v := 32) (w := 21) c1 (by decide)), if_neg (i_sw_x (v := 32) (w := 22) c1 (by decide)), if_neg (i_sw_x (v := 32) (w := 23) c1 (by decide)), if_neg (i_sw_x (v := 32) (w := 24) c1 (by decide)), if_neg (i_sw_x (v := 32) (w := 25) c1 (by decide)), if_neg (i_sw_x (v := 32) (w := 26) c1 (by decide)), if_neg (i_sw_x (v := 32) (w := 27) c1 (by decide)), if_neg (i_sw_x (v := 32) (w := 28) c1 (by decide)), if_neg (i_sw_x (v := 32) (w := 29) c1 (by decide)), if_neg (i_sw_x (v := 32) (w := 30) c1 (by decide)), if_neg (i_sw_x (v := 32) (w := 31) c1 (by decide)), if_pos (i_sw (v := 32) c1)] at ho
    refine us_aload_n hR dX11_statement_208 rfl ?_
    refine us_callV hR dX11_statement_209 (y := 12026) (by decide +kernel) (by decide) (J := i12026) rfl rfl rfl rfl hE.2.1 rfl (Nat.le_of_ble_eq_true rfl) (Nat.zero_le _) (Nat.zero_le _) ?_
    refine sp_12026 hE hP  (fun I57 q57 hs57 hb57 hP57 hF57 => ?_)
    rw [← hs57] at ho
    obtain ⟨s57, r57⟩ := q57
    rw [bT_eq] at ho
    have hF57 := hF.tr hF57
    refine us_if_eq hR dX11_statement_212 239 (by decide) (fun c58 => ?_) (fun c58 => ?_)
    · rw [if_pos c58] at ho
      refine us_iconstC hR dX11_statement_239 (c := 0) (by decide) ?_
      refine us_iret hR dX11_statement_240 rfl (nar01 (Or.inl rfl)) ?_
      cases ho
      exact h2 _ (Or.inl rfl) hP57 hF57
    · rw [if_neg c58] at ho
      refine us_aload_n hR dX11_statement_215 rfl ?_
      refine us_bipushC hR dX11_statement_216 (c := 48) (by decide) ?_
      refine us_iconstC hR dX11_statement_218 (c := 0) (by decide) ?_
      refine us_callV hR dX11_statement_219 (y := 12040) (by decide +kernel) (by decide) (J := i12040) rfl rfl rfl rfl hE.2.1 rfl (Nat.le_of_ble_eq_true rfl) (Nat.zero_le _) (Nat.zero_le _) ?_
      obtain ⟨q59, hs59⟩ := bO_ex ho
      obtain ⟨s59, r59⟩ := q59
      replace ho := bO_go ho hs59
      refine sp_12040 hE hP57  hs59 (fun I59 hb59 hP59 hF59 => ?_)
      have hF59 := hF57.tr hF59
      refine us_if_eq hR dX11_statement_222 239 (by decide) (fun c60 => ?_) (fun c60 => ?_)
      · rw [if_pos c60] at ho
        refine us_iconstC hR dX11_statement_239 (c := 0) (by decide) ?_
        refine us_iret hR dX11_statement_240 rfl (nar01 (Or.inl rfl)) ?_
        cases ho
        exact h2 _ (Or.inl rfl) hP59 hF59
      · rw [if_neg c60] at ho
        refine us_aload_n hR dX11_statement_225 rfl ?_
        refine us_bipushC hR dX11_statement_226 (c := 32) (by decide) ?_
        refine us_iconstC hR dX11_statement_228 (c := 2) (by decide) ?_
        refine us_callV hR dX11_statement_229 (y := 12022) (by decide +kernel) (by decide) (J := i12022) rfl rfl rfl rfl hE.2.1 rfl (Nat.le_of_ble_eq_true rfl) (Nat.zero_le _) (Nat.zero_le _) ?_
        obtain ⟨q61, hs61⟩ := bO_ex ho
        obtain ⟨s61, r61⟩ := q61
        replace ho := bO_go ho hs61
        refine sp_12022 hE hP59  hs61 (fun I61 hb61 hP61 hF61 => ?_)
        have hF61 := hF59.tr hF61
        refine us_if_eq hR dX11_statement_232 239 (by decide) (fun c62 => ?_) (fun c62 => ?_)
        · rw [if_pos c62] at ho
          refine us_iconstC hR dX11_statement_239 (c := 0) (by decide) ?_
          refine us_iret hR dX11_statement_240 rfl (nar01 (Or.inl rfl)) ?_
          cases ho
          exact h2 _ (Or.inl rfl) hP61 hF61
        · rw [if_neg c62] at ho
          refine us_iconstC hR dX11_statement_235 (c := 1) (by decide) ?_
          refine us_goto hR dX11_statement_236 240 (by decide) ?_
          refine us_iret hR dX11_statement_240 rfl (nar01 (Or.inr rfl)) ?_
          cases ho
          exact h2 _ (Or.inr rfl) hP61 hF61
def f_12039  (s : Mx) : Option (Mx × Int32) :=
  if (mf s 5) = 5 then
    bO (f_12021 14 0 s) fun s5 r5 =>
    gd (vi (mf s5 38) 10) <|
    gd (vi (mg s5 24 (mf s5 38)) 1200) <|
    bS (ms s5 5 (mg s5 24 (mf s5 38)) (mf s5 11)) fun s6 =>
    gd (vi (mf s6 38) 10) <|
    bS (ms s6 24 (mf s6 38) r5) fun s7 =>
    gd (vi (mf s7 38) 10) <|
    bS (ms s7 22 (mf s7 38) 5) fun s8 =>
    bO (f_12022 5 7 s8) fun s9 r9 =>
    some (s9, r9)
  else
    gd (vi (mf s 38) 10) <|
    gd (vi (mg s 24 (mf s 38)) 1200) <|
    bS (ms s 5 (mg s 24 (mf s 38)) (mf s 11)) fun s2 =>
    bS (mp s2 32 0) fun s3 =>
    bO (f_12042 s3) fun s4 r4 =>
    some (s4, r4)
theorem sp_12039 {d : Nat} {G : ab_G} {ad : Nat → Nat} {I : Nat → Nat → Int32} {s : Mx} {P : ab_Pq} {X : ab_Xq} (hE : EM G ad) (hP : RepM I ad s)   {o : Mx × Int32} (ho : f_12039 s = some o) (h : ∀ I1, (o.2 = 0 ∨ o.2 = 1) → RepM I1 ad o.1 → FrM ad I I1 → P (gW G I1) (some (.int o.2))) : ab_Gam (d + 6) 12039 [.ref (ad 0)] (gW G I) P X := by
  have h2 := h
  have hF : FrM ad I I := FrM_rfl
  unfold f_12039 at ho
  refine ab_enter (I := i12039) rfl (Nat.le_of_ble_eq_true rfl) (fun R hR => ?_)
  refine us_aload_n hR dX11_afterIf_0 rfl ?_
  refine us_getIx hR dX11_afterIf_1 fR_12_240 hE.2.1 rfl (RepM_f hP 5) ?_
  refine us_iconstC hR dX11_afterIf_4 (c := 5) (by decide) ?_
  refine us_icmp_ne hR dX11_afterIf_5 62 (by decide) (fun c1 => ?_) (fun c1 => ?_)
  · rw [if_neg c1] at ho
    refine us_aload_n hR dX11_afterIf_62 rfl ?_
    refine us_getR hR dX11_afterIf_63 fR_12_23 hE.2.1 rfl (em_r_13 hE) ?_
    refine us_aload_n hR dX11_afterIf_66 rfl ?_
    refine us_getR hR dX11_afterIf_67 fR_12_80 hE.2.1 rfl (em_r_41 hE) ?_
    refine us_aload_n hR dX11_afterIf_70 rfl ?_
    refine us_getIx hR dX11_afterIf_71 fR_12_326 hE.2.1 rfl (RepM_f hP 38) ?_
    have hg := gd_c ho
    rw [gd_e hg] at ho
    refine us_ialoadM hE hP (em_q_41 hE) hR dX11_afterIf_74 hg ?_
    refine us_aload_n hR dX11_afterIf_75 rfl ?_
    refine us_getIx hR dX11_afterIf_76 fR_12_260 hE.2.1 rfl (RepM_f hP 11) ?_
    have hg := gd_c ho
    rw [gd_e hg] at ho
    refine us_iastoreM hE hP (em_q_13 hE) hR dX11_afterIf_79 hg (fun I2 s2 hs2 hP2 hF2 => ?_)
    rw [← hs2, bS_eq] at ho
    have hF2 := hF.tr hF2
    refine us_aload_n hR dX11_afterIf_80 rfl ?_
    refine us_iconstC hR dX11_afterIf_81 (c := 0) (by decide) ?_
    refine us_putIM hE hP2 32 hR dX11_afterIf_82 fR_12_266 (Or.inl rfl) rfl rfl (fun I3 s3 hs3 hP3 hF3 => ?_)
    rw [← hs3, bS_eq] at ho
    have hF3 := hF2.tr hF3
    refine us_aload_n hR dX11_afterIf_85 rfl ?_
    refine us_callV hR dX11_afterIf_86 (y := 12042) (by decide +kernel) (by decide) (J := i12042) rfl rfl rfl rfl hE.2.1 rfl (Nat.le_of_ble_eq_true rfl) (Nat.zero_le _) (Nat.zero_le _) ?_
    obtain ⟨q4, hs4⟩ := bO_ex ho
    obtain ⟨s4, r4⟩ := q4
    replace ho := bO_go ho hs4
    refine sp_12042 hE hP3  hs4 (fun I4 hb4 hP4 hF4 => ?_)
    have hF4 := hF3.tr hF4
    refine us_iret hR dX11_afterIf_89 rfl (nar01 hb4) ?_
    cases ho
    exact h2 _ hb4 hP4 hF4
  · rw [if_pos c1] at ho
    refine us_aload_n hR dX11_afterIf_8 rfl ?_
    refine us_bipushC hR dX11_afterIf_9 (c := 14) (by decide) ?_
    refine us_iconstC hR dX11_afterIf_11 (c := 0) (by decide) ?_
    refine us_callV hR dX11_afterIf_12 (y := 12021) (by decide +kernel) (by decide) (J := i12021) rfl rfl rfl rfl hE.2.1 rfl (Nat.le_of_ble_eq_true rfl) (Nat.zero_le _) (Nat.zero_le _) ?_
    obtain ⟨q5, hs5⟩ := bO_ex ho
    obtain ⟨s5, r5⟩ := q5
    replace ho := bO_go ho hs5
    refine sp_12021 hE hP  hs5 (fun I5 hP5 hF5 => ?_)
    have hF5 := hF.tr hF5
    refine us_istore_n hR dX11_afterIf_15 (Nat.le_of_ble_eq_true rfl) ?_
    refine us_aload_n hR dX11_afterIf_16 rfl ?_
    refine us_getR hR dX11_afterIf_17 fR_12_23 hE.2.1 rfl (em_r_13 hE) ?_
    refine us_aload_n hR dX11_afterIf_20 rfl ?_
    refine us_getR hR dX11_afterIf_21 fR_12_80 hE.2.1 rfl (em_r_41 hE) ?_
    refine us_aload_n hR dX11_afterIf_24 rfl ?_
    refine us_getIx hR dX11_afterIf_25 fR_12_326 hE.2.1 rfl (RepM_f hP5 38) ?_
    have hg := gd_c ho
    rw [gd_e hg] at ho
    refine us_ialoadM hE hP5 (em_q_41 hE) hR dX11_afterIf_28 hg ?_
    refine us_aload_n hR dX11_afterIf_29 rfl ?_
    refine us_getIx hR dX11_afterIf_30 fR_12_260 hE.2.1 rfl (RepM_f hP5 11) ?_
    have hg := gd_c ho
    rw [gd_e hg] at ho
    refine us_iastoreM hE hP5 (em_q_13 hE) hR dX11_afterIf_33 hg (fun I6 s6 hs6 hP6 hF6 => ?_)
    rw [← hs6, bS_eq] at ho
    have hF6 := hF5.tr hF6
    refine us_aload_n hR dX11_afterIf_34 rfl ?_
    refine us_getR hR dX11_afterIf_35 fR_12_80 hE.2.1 rfl (em_r_41 hE) ?_
    refine us_aload_n hR dX11_afterIf_38 rfl ?_
    refine us_getIx hR dX11_afterIf_39 fR_12_326 hE.2.1 rfl (RepM_f hP6 38) ?_
    refine us_iload_n hR dX11_afterIf_42 rfl ?_
    have hg := gd_c ho
    rw [gd_e hg] at ho
    refine us_iastoreM hE hP6 (em_q_41 hE) hR dX11_afterIf_43 hg (fun I7 s7 hs7 hP7 hF7 => ?_)
    rw [← hs7, bS_eq] at ho
    have hF7 := hF6.tr hF7
    refine us_aload_n hR dX11_afterIf_44 rfl ?_
    refine us_getR hR dX11_afterIf_45 fR_12_74 hE.2.1 rfl (em_r_39 hE) ?_
    refine us_aload_n hR dX11_afterIf_48 rfl ?_
    refine us_getIx hR dX11_afterIf_49 fR_12_326 hE.2.1 rfl (RepM_f hP7 38) ?_
    refine us_iconstC hR dX11_afterIf_52 (c := 5) (by decide) ?_
    have hg := gd_c ho
    rw [gd_e hg] at ho
    refine us_iastoreM hE hP7 (em_q_39 hE) hR dX11_afterIf_53 hg (fun I8 s8 hs8 hP8 hF8 => ?_)
    rw [← hs8, bS_eq] at ho
    have hF8 := hF7.tr hF8
    refine us_aload_n hR dX11_afterIf_54 rfl ?_
    refine us_iconstC hR dX11_afterIf_55 (c := 5) (by decide) ?_
    refine us_bipushC hR dX11_afterIf_56 (c := 7) (by decide) ?_
    refine us_callV hR dX11_afterIf_58 (y := 12022) (by decide +kernel) (by decide) (J := i12022) rfl rfl rfl rfl hE.2.1 rfl (Nat.le_of_ble_eq_true rfl) (Nat.zero_le _) (Nat.zero_le _) ?_
    obtain ⟨q9, hs9⟩ := bO_ex ho
    obtain ⟨s9, r9⟩ := q9
    replace ho := bO_go ho hs9
    refine sp_12022 hE hP8  hs9 (fun I9 hb9 hP9 hF9 => ?_)
    have hF9 := hF8.tr hF9
    refine us_iret hR dX11_afterIf_61 rfl (nar01 hb9) ?_
    cases ho
    exact h2 _ hb9 hP9 hF9
def f_12044  (s : Mx) : Option (Mx × Int32) :=
  bO (f_12029 s) fun s1 r1 =>
  if r1 = (-1) then
    bT (f_12020 5 s1) fun s8 r8 =>
    some (s8, r8)
  else
    bO (f_12021 2 r1 s1) fun s3 r3 =>
    bO (f_12022 2 4 s3) fun s4 r4 =>
    if r4 = 0 then
      some (s4, 0)
    else
      bO (f_12034 s4) fun s6 r6 =>
      if r6 = 0 then
        some (s6, 0)
      else
        some (s6, 1)
theorem sp_12044 {d : Nat} {G : ab_G} {ad : Nat → Nat} {I : Nat → Nat → Int32} {s : Mx} {P : ab_Pq} {X : ab_Xq} (hE : EM G ad) (hP : RepM I ad s)   {o : Mx × Int32} (ho : f_12044 s = some o) (h : ∀ I1, (o.2 = 0 ∨ o.2 = 1) → RepM I1 ad o.1 → FrM ad I I1 → P (gW G I1) (some (.int o.2))) : ab_Gam (d + 4) 12044 [.ref (ad 0)] (gW G I) P X := by
  have h2 := h
  have hF : FrM ad I I := FrM_rfl
  unfold f_12044 at ho
  refine ab_enter (I := i12044) rfl (Nat.le_of_ble_eq_true rfl) (fun R hR => ?_)
  refine us_aload_n hR dX11_loads_0 rfl ?_
  refine us_callV hR dX11_loads_1 (y := 12029) (by decide +kernel) (by decide) (J := i12029) rfl rfl rfl rfl hE.2.1 rfl (Nat.le_of_ble_eq_true rfl) (Nat.zero_le _) (Nat.zero_le _) ?_
  obtain ⟨q1, hs1⟩ := bO_ex ho
  obtain ⟨s1, r1⟩ := q1
  replace ho := bO_go ho hs1
  refine sp_12029 hE hP  hs1 (fun I1 hP1 hF1 => ?_)
  have hF1 := hF.tr hF1
  refine us_istore_n hR dX11_loads_4 (Nat.le_of_ble_eq_true rfl) ?_
  refine us_iload_n hR dX11_loads_5 rfl ?_
  refine us_iconstC hR dX11_loads_6 (c := (-1)) (by decide) ?_
  refine us_icmp_ne hR dX11_loads_7 16 (by decide) (fun c2 => ?_) (fun c2 => ?_)
  · rw [if_neg c2] at ho
    refine us_aload_n hR dX11_loads_16 rfl ?_
    refine us_iconstC hR dX11_loads_17 (c := 2) (by decide) ?_
    refine us_iload_n hR dX11_loads_18 rfl ?_
    refine us_callV hR dX11_loads_19 (y := 12021) (by decide +kernel) (by decide) (J := i12021) rfl rfl rfl rfl hE.2.1 rfl (Nat.le_of_ble_eq_true rfl) (Nat.zero_le _) (Nat.zero_le _) ?_
    obtain ⟨q3, hs3⟩ := bO_ex ho
    obtain ⟨s3, r3⟩ := q3
    replace ho := bO_go ho hs3
    refine sp_12021 hE hP1  hs3 (fun I3 hP3 hF3 => ?_)
    have hF3 := hF1.tr hF3
    refine us_istore_n hR dX11_loads_22 (Nat.le_of_ble_eq_true rfl) ?_
    refine us_aload_n hR dX11_loads_23 rfl ?_
    refine us_iconstC hR dX11_loads_24 (c := 2) (by decide) ?_
    refine us_iconstC hR dX11_loads_25 (c := 4) (by decide) ?_
    refine us_callV hR dX11_loads_26 (y := 12022) (by decide +kernel) (by decide) (J := i12022) rfl rfl rfl rfl hE.2.1 rfl (Nat.le_of_ble_eq_true rfl) (Nat.zero_le _) (Nat.zero_le _) ?_
    obtain ⟨q4, hs4⟩ := bO_ex ho
    obtain ⟨s4, r4⟩ := q4
    replace ho := bO_go ho hs4
    refine sp_12022 hE hP3  hs4 (fun I4 hb4 hP4 hF4 => ?_)
    have hF4 := hF3.tr hF4
    refine us_if_eq hR dX11_loads_29 43 (by decide) (fun c5 => ?_) (fun c5 => ?_)
    · rw [if_pos c5] at ho
      refine us_iconstC hR dX11_loads_43 (c := 0) (by decide) ?_
      refine us_iret hR dX11_loads_44 rfl (nar01 (Or.inl rfl)) ?_
      cases ho
      exact h2 _ (Or.inl rfl) hP4 hF4
    · rw [if_neg c5] at ho
      refine us_aload_n hR dX11_loads_32 rfl ?_
      refine us_callV hR dX11_loads_33 (y := 12034) (by decide +kernel) (by decide) (J := i12034) rfl rfl rfl rfl hE.2.1 rfl (Nat.le_of_ble_eq_true rfl) (Nat.zero_le _) (Nat.zero_le _) ?_
      obtain ⟨q6, hs6⟩ := bO_ex ho
      obtain ⟨s6, r6⟩ := q6
      replace ho := bO_go ho hs6
      refine sp_12034 hE hP4  hs6 (fun I6 hb6 hP6 hF6 => ?_)
      have hF6 := hF4.tr hF6
      refine us_if_eq hR dX11_loads_36 43 (by decide) (fun c7 => ?_) (fun c7 => ?_)
      · rw [if_pos c7] at ho
        refine us_iconstC hR dX11_loads_43 (c := 0) (by decide) ?_
        refine us_iret hR dX11_loads_44 rfl (nar01 (Or.inl rfl)) ?_
        cases ho
        exact h2 _ (Or.inl rfl) hP6 hF6
      · rw [if_neg c7] at ho
        refine us_iconstC hR dX11_loads_39 (c := 1) (by decide) ?_
        refine us_goto hR dX11_loads_40 44 (by decide) ?_
        refine us_iret hR dX11_loads_44 rfl (nar01 (Or.inr rfl)) ?_
        cases ho
        exact h2 _ (Or.inr rfl) hP6 hF6
  · rw [if_pos c2] at ho
    refine us_aload_n hR dX11_loads_10 rfl ?_
    refine us_iconstC hR dX11_loads_11 (c := 5) (by decide) ?_
    refine us_callV hR dX11_loads_12 (y := 12020) (by decide +kernel) (by decide) (J := i12020) rfl rfl rfl rfl hE.2.1 rfl (Nat.le_of_ble_eq_true rfl) (Nat.zero_le _) (Nat.zero_le _) ?_
    refine sp_12020 hE hP1  (fun I8 q8 hs8 hb8 hP8 hF8 => ?_)
    rw [← hs8] at ho
    obtain ⟨s8, r8⟩ := q8
    rw [bT_eq] at ho
    have hF8 := hF1.tr hF8
    refine us_iret hR dX11_loads_15 rfl (nar01 hb8) ?_
    cases ho
    exact h2 _ hb8 hP8 hF8
def f_12043_J171   (s : Mx) : Option (Mx × Int32) :=
  bT (f_12026 s) fun s1 r1 =>
  if r1 = 0 then
    some (s1, 0)
  else
    bOv (f_12024 40 (mf s1 5) s1) fun s3 =>
    bO (f_12022 (mf s3 5) 2 s3) fun s4 r4 =>
    some (s4, r4)
def f_12043  (s : Mx) : Option (Mx × Int32) :=
  if (mf s 5) = 1 then
    bO (f_12021 1 (mf s 8) s) fun s6 r6 =>
    if r6 < 0 then
      some (s6, 0)
    else
      bO (f_12022 1 4 s6) fun s8 r8 =>
      if r8 = 0 then
        some (s8, 0)
      else
        bO (f_12034 s8) fun s10 r10 =>
        if r10 = 0 then
          some (s10, 0)
        else
          some (s10, 1)
  else if (mf s 5) = 2 then
    bP (f_12014 s) fun r12 =>
    if r12 = 0 then
      bO (f_12044 s) fun s14 r14 =>
      some (s14, r14)
    else
      bO (f_12035 s) fun s15 r15 =>
      some (s15, r15)
  else if (mf s 5) = 8 then
    bO (f_12021 9 0 s) fun s16 r16 =>
    if r16 < 0 then
      some (s16, 0)
    else
      bO (f_12022 8 4 s16) fun s18 r18 =>
      if r18 = 0 then
        some (s18, 0)
      else
        bO (f_12034 s18) fun s20 r20 =>
        if r20 = 0 then
          some (s20, 0)
        else
          some (s20, 1)
  else if (mf s 5) = 12 then
    f_12043_J171  s
  else if (mf s 5) = 24 then
    f_12043_J171  s
  else if (mf s 5) = 26 then
    bT (f_12026 s) fun s22 r22 =>
    if r22 = 0 then
      some (s22, 0)
    else
      bOv (f_12024 41 0 s22) fun s24 =>
      bO (f_12022 26 2 s24) fun s25 r25 =>
      some (s25, r25)
  else if (mf s 5) = 27 then
    if (mf s 32) = 3 then
      bO (f_12036 s) fun s28 r28 =>
      some (s28, r28)
    else
      bT (f_12020 3 s) fun s27 r27 =>
      some (s27, r27)
  else if (mf s 5) = 32 then
    f_12043_J171  s
  else
    bT (f_12020 3 s) fun s29 r29 =>
    some (s29, r29)
theorem sp_12043 {d : Nat} {G : ab_G} {ad : Nat → Nat} {I : Nat → Nat → Int32} {s : Mx} {P : ab_Pq} {X : ab_Xq} (hE : EM G ad) (hP : RepM I ad s)   {o : Mx × Int32} (ho : f_12043 s = some o) (h : ∀ I1, (o.2 = 0 ∨ o.2 = 1) → RepM I1 ad o.1 → FrM ad I I1 → P (gW G I1) (some (.int o.2))) : ab_Gam (d + 5) 12043 [.ref (ad 0)] (gW G I) P X := by
  have h2 := h
  have hF : FrM ad I I := FrM_rfl
  unfold f_12043 at ho
  refine ab_enter (I := i12043) rfl (Nat.le_of_ble_eq_true rfl) (fun R hR => ?_)
  have h12043_J171 : ∀   (s : Mx) (Ia : Nat → Nat → Int32) (bc bs : Nat) (hPa : RepM Ia ad s) (hFa : FrM ad I Ia) (ho : f_12043_J171  s = some o), R 171 [some (.ref (ad 0))] [] (gW G Ia) bc bs := by
    intro   s Ia bc bs  hPa hFa ho
    unfold f_12043_J171 at ho
    refine us_aload_n hR dX11_operand_171 rfl ?_
    refine us_callV hR dX11_operand_172 (y := 12026) (by decide +kernel) (by decide) (J := i12026) rfl rfl rfl rfl hE.2.1 rfl (Nat.le_of_ble_eq_true rfl) (Nat.zero_le _) (Nat.zero_le _) ?_
    refine sp_12026 hE hPa  (fun I1 q1 hs1 hb1 hP1 hF1 => ?_)
    rw [← hs1] at ho
    obtain ⟨s1, r1⟩ := q1
    rw [bT_eq] at ho
    have hF1 := hFa.tr hF1
    refine us_if_ne hR dX11_operand_175 180 (by decide) (fun c2 => ?_) (fun c2 => ?_)
    · rw [if_neg c2] at ho
      refine us_aload_n hR dX11_operand_180 rfl ?_
      refine us_bipushC hR dX11_operand_181 (c := 40) (by decide) ?_
      refine us_aload_n hR dX11_operand_183 rfl ?_
      refine us_getIx hR dX11_operand_184 fR_12_240 hE.2.1 rfl (RepM_f hP1 5) ?_
      refine us_callV hR dX11_operand_187 (y := 12024) (by decide +kernel) (by decide) (J := i12024) rfl rfl rfl rfl hE.2.1 rfl (Nat.le_of_ble_eq_true rfl) (Nat.zero_le _) (Nat.zero_le _) ?_
      obtain ⟨s3, hs3⟩ := bOv_ex ho
      replace ho := bOv_go ho hs3
      refine sp_12024 hE hP1  hs3 (fun I3 hP3 hF3 => ?_)
      have hF3 := hF1.tr hF3
      refine us_aload_n hR dX11_operand_190 rfl ?_
      refine us_aload_n hR dX11_operand_191 rfl ?_
      refine us_getIx hR dX11_operand_192 fR_12_240 hE.2.1 rfl (RepM_f hP3 5) ?_
      refine us_iconstC hR dX11_operand_195 (c := 2) (by decide) ?_
      refine us_callV hR dX11_operand_196 (y := 12022) (by decide +kernel) (by decide) (J := i12022) rfl rfl rfl rfl hE.2.1 rfl (Nat.le_of_ble_eq_true rfl) (Nat.zero_le _) (Nat.zero_le _) ?_
      obtain ⟨q4, hs4⟩ := bO_ex ho
      obtain ⟨s4, r4⟩ := q4
      replace ho := bO_go ho hs4
      refine sp_12022 hE hP3  hs4 (fun I4 hb4 hP4 hF4 => ?_)
      have hF4 := hF3.tr hF4
      refine us_iret hR dX11_operand_199 rfl (nar01 hb4) ?_
      cases ho
      exact h2 _ hb4 hP4 hF4
    · rw [if_pos c2] at ho
      refine us_iconstC hR dX11_operand_178 (c := 0) (by decide) ?_
      refine us_iret hR dX11_operand_179 rfl (nar01 (Or.inl rfl)) ?_
      cases ho
      exact h2 _ (Or.inl rfl) hP1 hF1
  refine us_aload_n hR dX11_operand_0 rfl ?_
  refine us_getIx hR dX11_operand_1 fR_12_240 hE.2.1 rfl (RepM_f hP 5) ?_
  refine us_lsw hR dX11_operand_4 (by decide) ⟨fun c5 => ⟨by decide, ?_⟩, fun c5_0 => ⟨fun c5 => ⟨by decide, ?_⟩, fun c5_1 => ⟨fun c5 => ⟨by decide, ?_⟩, fun c5_2 => ⟨fun c5 => ⟨by decide, ?_⟩, fun c5_3 => ⟨fun c5 => ⟨by decide, ?_⟩, fun c5_4 => ⟨fun c5 => ⟨by decide, ?_⟩, fun c5_5 => ⟨fun c5 => ⟨by decide, ?_⟩, fun c5_6 => ⟨fun c5 => ⟨by decide, ?_⟩, fun c5_7 => ⟨by decide, ?_⟩⟩⟩⟩⟩⟩⟩⟩⟩
  · rw [if_pos (i_sw (v := 1) c5)] at ho
    refine us_aload_n hR dX11_operand_80 rfl ?_
    refine us_iconstC hR dX11_operand_81 (c := 1) (by decide) ?_
    refine us_aload_n hR dX11_operand_82 rfl ?_
    refine us_getIx hR dX11_operand_83 fR_12_213 hE.2.1 rfl (RepM_f hP 8) ?_
    refine us_callV hR dX11_operand_86 (y := 12021) (by decide +kernel) (by decide) (J := i12021) rfl rfl rfl rfl hE.2.1 rfl (Nat.le_of_ble_eq_true rfl) (Nat.zero_le _) (Nat.zero_le _) ?_
    obtain ⟨q6, hs6⟩ := bO_ex ho
    obtain ⟨s6, r6⟩ := q6
    replace ho := bO_go ho hs6
    refine sp_12021 hE hP  hs6 (fun I6 hP6 hF6 => ?_)
    have hF6 := hF.tr hF6
    refine us_if_lt hR dX11_operand_89 112 (by decide) (fun c7 => ?_) (fun c7 => ?_)
    · rw [if_pos c7] at ho
      refine us_iconstC hR dX11_operand_112 (c := 0) (by decide) ?_
      refine us_iret hR dX11_operand_113 rfl (nar01 (Or.inl rfl)) ?_
      cases ho
      exact h2 _ (Or.inl rfl) hP6 hF6
    · rw [if_neg c7] at ho
      refine us_aload_n hR dX11_operand_92 rfl ?_
      refine us_iconstC hR dX11_operand_93 (c := 1) (by decide) ?_
      refine us_iconstC hR dX11_operand_94 (c := 4) (by decide) ?_
      refine us_callV hR dX11_operand_95 (y := 12022) (by decide +kernel) (by decide) (J := i12022) rfl rfl rfl rfl hE.2.1 rfl (Nat.le_of_ble_eq_true rfl) (Nat.zero_le _) (Nat.zero_le _) ?_
      obtain ⟨q8, hs8⟩ := bO_ex ho
      obtain ⟨s8, r8⟩ := q8
      replace ho := bO_go ho hs8
      refine sp_12022 hE hP6  hs8 (fun I8 hb8 hP8 hF8 => ?_)
      have hF8 := hF6.tr hF8
      refine us_if_eq hR dX11_operand_98 112 (by decide) (fun c9 => ?_) (fun c9 => ?_)
      · rw [if_pos c9] at ho
        refine us_iconstC hR dX11_operand_112 (c := 0) (by decide) ?_
        refine us_iret hR dX11_operand_113 rfl (nar01 (Or.inl rfl)) ?_
        cases ho
        exact h2 _ (Or.inl rfl) hP8 hF8
      · rw [if_neg c9] at ho
        refine us_aload_n hR dX11_operand_101 rfl ?_
        refine us_callV hR dX11_operand_102 (y := 12034) (by decide +kernel) (by decide) (J := i12034) rfl rfl rfl rfl hE.2.1 rfl (Nat.le_of_ble_eq_true rfl) (Nat.zero_le _) (Nat.zero_le _) ?_
        obtain ⟨q10, hs10⟩ := bO_ex ho
        obtain ⟨s10, r10⟩ := q10
        replace ho := bO_go ho hs10
        refine sp_12034 hE hP8  hs10 (fun I10 hb10 hP10 hF10 => ?_)
        have hF10 := hF8.tr hF10
        refine us_if_eq hR dX11_operand_105 112 (by decide) (fun c11 => ?_) (fun c11 => ?_)
        · rw [if_pos c11] at ho
          refine us_iconstC hR dX11_operand_112 (c := 0) (by decide) ?_
          refine us_iret hR dX11_operand_113 rfl (nar01 (Or.inl rfl)) ?_
          cases ho
          exact h2 _ (Or.inl rfl) hP10 hF10
        · rw [if_neg c11] at ho
          refine us_iconstC hR dX11_operand_108 (c := 1) (by decide) ?_
          refine us_goto hR dX11_operand_109 113 (by decide) ?_
          refine us_iret hR dX11_operand_113 rfl (nar01 (Or.inr rfl)) ?_
          cases ho
          exact h2 _ (Or.inr rfl) hP10 hF10
  · rw [if_neg (i_sw_x (v := 2) (w := 1) c5 (by decide)), if_pos (i_sw (v := 2) c5)] at ho
    refine us_aload_n hR dX11_operand_221 rfl ?_
    refine us_callV hR dX11_operand_222 (y := 12014) (by decide +kernel) (by decide) (J := i12014) rfl rfl rfl rfl hE.2.1 rfl (Nat.le_of_ble_eq_true rfl) (Nat.zero_le _) (Nat.zero_le _) ?_
    obtain ⟨r12, hr12⟩ := bP_ex ho
    replace ho := bP_go ho hr12
    refine sp_12014 hE hP  hr12 (fun hb12 => ?_)
    refine us_if_eq hR dX11_operand_225 235 (by decide) (fun c13 => ?_) (fun c13 => ?_)
    · rw [if_pos c13] at ho
      refine us_aload_n hR dX11_operand_235 rfl ?_
      refine us_callV hR dX11_operand_236 (y := 12044) (by decide +kernel) (by decide) (J := i12044) rfl rfl rfl rfl hE.2.1 rfl (Nat.le_of_ble_eq_true rfl) (Nat.zero_le _) (Nat.zero_le _) ?_
      obtain ⟨q14, hs14⟩ := bO_ex ho
      obtain ⟨s14, r14⟩ := q14
      replace ho := bO_go ho hs14
      refine sp_12044 hE hP  hs14 (fun I14 hb14 hP14 hF14 => ?_)
      have hF14 := hF.tr hF14
      refine us_iret hR dX11_operand_239 rfl (nar01 hb14) ?_
      cases ho
      exact h2 _ hb14 hP14 hF14
    · rw [if_neg c13] at ho
      refine us_aload_n hR dX11_operand_228 rfl ?_
      refine us_callV hR dX11_operand_229 (y := 12035) (by decide +kernel) (by decide) (J := i12035) rfl rfl rfl rfl hE.2.1 rfl (Nat.le_of_ble_eq_true rfl) (Nat.zero_le _) (Nat.zero_le _) ?_
      obtain ⟨q15, hs15⟩ := bO_ex ho
      obtain ⟨s15, r15⟩ := q15
      replace ho := bO_go ho hs15
      refine sp_12035 hE hP  hs15 (fun I15 hb15 hP15 hF15 => ?_)
      have hF15 := hF.tr hF15
      refine us_goto hR dX11_operand_232 239 (by decide) ?_
      refine us_iret hR dX11_operand_239 rfl (nar01 hb15) ?_
      cases ho
      exact h2 _ hb15 hP15 hF15
  · rw [if_neg (i_sw_x (v := 8) (w := 1) c5 (by decide)), if_neg (i_sw_x (v := 8) (w := 2) c5 (by decide)), if_pos (i_sw (v := 8) c5)] at ho
    refine us_aload_n hR dX11_operand_114 rfl ?_
    refine us_bipushC hR dX11_operand_115 (c := 9) (by decide) ?_
    refine us_iconstC hR dX11_operand_117 (c := 0) (by decide) ?_
    refine us_callV hR dX11_operand_118 (y := 12021) (by decide +kernel) (by decide) (J := i12021) rfl rfl rfl rfl hE.2.1 rfl (Nat.le_of_ble_eq_true rfl) (Nat.zero_le _) (Nat.zero_le _) ?_
    obtain ⟨q16, hs16⟩ := bO_ex ho
    obtain ⟨s16, r16⟩ := q16
    replace ho := bO_go ho hs16
    refine sp_12021 hE hP  hs16 (fun I16 hP16 hF16 => ?_)
    have hF16 := hF.tr hF16
    refine us_if_lt hR dX11_operand_121 145 (by decide) (fun c17 => ?_) (fun c17 => ?_)
    · rw [if_pos c17] at ho
      refine us_iconstC hR dX11_operand_145 (c := 0) (by decide) ?_
      refine us_iret hR dX11_operand_146 rfl (nar01 (Or.inl rfl)) ?_
      cases ho
      exact h2 _ (Or.inl rfl) hP16 hF16
    · rw [if_neg c17] at ho
      refine us_aload_n hR dX11_operand_124 rfl ?_
      refine us_bipushC hR dX11_operand_125 (c := 8) (by decide) ?_
      refine us_iconstC hR dX11_operand_127 (c := 4) (by decide) ?_
      refine us_callV hR dX11_operand_128 (y := 12022) (by decide +kernel) (by decide) (J := i12022) rfl rfl rfl rfl hE.2.1 rfl (Nat.le_of_ble_eq_true rfl) (Nat.zero_le _) (Nat.zero_le _) ?_
      obtain ⟨q18, hs18⟩ := bO_ex ho
      obtain ⟨s18, r18⟩ := q18
      replace ho := bO_go ho hs18
      refine sp_12022 hE hP16  hs18 (fun I18 hb18 hP18 hF18 => ?_)
      have hF18 := hF16.tr hF18
      refine us_if_eq hR dX11_operand_131 145 (by decide) (fun c19 => ?_) (fun c19 => ?_)
      · rw [if_pos c19] at ho
        refine us_iconstC hR dX11_operand_145 (c := 0) (by decide) ?_
        refine us_iret hR dX11_operand_146 rfl (nar01 (Or.inl rfl)) ?_
        cases ho
        exact h2 _ (Or.inl rfl) hP18 hF18
      · rw [if_neg c19] at ho
        refine us_aload_n hR dX11_operand_134 rfl ?_
        refine us_callV hR dX11_operand_135 (y := 12034) (by decide +kernel) (by decide) (J := i12034) rfl rfl rfl rfl hE.2.1 rfl (Nat.le_of_ble_eq_true rfl) (Nat.zero_le _) (Nat.zero_le _) ?_
        obtain ⟨q20, hs20⟩ := bO_ex ho
        obtain ⟨s20, r20⟩ := q20
        replace ho := bO_go ho hs20
        refine sp_12034 hE hP18  hs20 (fun I20 hb20 hP20 hF20 => ?_)
        have hF20 := hF18.tr hF20
        refine us_if_eq hR dX11_operand_138 145 (by decide) (fun c21 => ?_) (fun c21 => ?_)
        · rw [if_pos c21] at ho
          refine us_iconstC hR dX11_operand_145 (c := 0) (by decide) ?_
          refine us_iret hR dX11_operand_146 rfl (nar01 (Or.inl rfl)) ?_
          cases ho
          exact h2 _ (Or.inl rfl) hP20 hF20
        · rw [if_neg c21] at ho
          refine us_iconstC hR dX11_operand_141 (c := 1) (by decide) ?_
          refine us_goto hR dX11_operand_142 146 (by decide) ?_
          refine us_iret hR dX11_operand_146 rfl (nar01 (Or.inr rfl)) ?_
          cases ho
          exact h2 _ (Or.inr rfl) hP20 hF20
  · rw [if_neg (i_sw_x (v := 12) (w := 1) c5 (by decide)), if_neg (i_sw_x (v := 12) (w := 2) c5 (by decide)), if_neg (i_sw_x (v := 12) (w := 8) c5 (by decide)), if_pos (i_sw (v := 12) c5)] at ho
    exact h12043_J171   s I _ _ hP hF ho
  · rw [if_neg (i_sw_x (v := 24) (w := 1) c5 (by decide)), if_neg (i_sw_x (v := 24) (w := 2) c5 (by decide)), if_neg (i_sw_x (v := 24) (w := 8) c5 (by decide)), if_neg (i_sw_x (v := 24) (w := 12) c5 (by decide)), if_pos (i_sw (v := 24) c5)] at ho
    exact h12043_J171   s I _ _ hP hF ho
  · rw [if_neg (i_sw_x (v := 26) (w := 1) c5 (by decide)), if_neg (i_sw_x (v := 26) (w := 2) c5 (by decide)), if_neg (i_sw_x (v := 26) (w := 8) c5 (by decide)), if_neg (i_sw_x (v := 26) (w := 12) c5 (by decide)), if_neg (i_sw_x (v := 26) (w := 24) c5 (by decide)), if_pos (i_sw (v := 26) c5)] at ho
    refine us_aload_n hR dX11_operand_147 rfl ?_
    refine us_callV hR dX11_operand_148 (y := 12026) (by decide +kernel) (by decide) (J := i12026) rfl rfl rfl rfl hE.2.1 rfl (Nat.le_of_ble_eq_true rfl) (Nat.zero_le _) (Nat.zero_le _) ?_
    refine sp_12026 hE hP  (fun I22 q22 hs22 hb22 hP22 hF22 => ?_)
    rw [← hs22] at ho
    obtain ⟨s22, r22⟩ := q22
    rw [bT_eq] at ho
    have hF22 := hF.tr hF22
    refine us_if_ne hR dX11_operand_151 156 (by decide) (fun c23 => ?_) (fun c23 => ?_)
    · rw [if_neg c23] at ho
      refine us_aload_n hR dX11_operand_156 rfl ?_
      refine us_bipushC hR dX11_operand_157 (c := 41) (by decide) ?_
      refine us_iconstC hR dX11_operand_159 (c := 0) (by decide) ?_
      refine us_callV hR dX11_operand_160 (y := 12024) (by decide +kernel) (by decide) (J := i12024) rfl rfl rfl rfl hE.2.1 rfl (Nat.le_of_ble_eq_true rfl) (Nat.zero_le _) (Nat.zero_le _) ?_
      obtain ⟨s24, hs24⟩ := bOv_ex ho
      replace ho := bOv_go ho hs24
      refine sp_12024 hE hP22  hs24 (fun I24 hP24 hF24 => ?_)
      have hF24 := hF22.tr hF24
      refine us_aload_n hR dX11_operand_163 rfl ?_
      refine us_bipushC hR dX11_operand_164 (c := 26) (by decide) ?_
      refine us_iconstC hR dX11_operand_166 (c := 2) (by decide) ?_
      refine us_callV hR dX11_operand_167 (y := 12022) (by decide +kernel) (by decide) (J := i12022) rfl rfl rfl rfl hE.2.1 rfl (Nat.le_of_ble_eq_true rfl) (Nat.zero_le _) (Nat.zero_le _) ?_
      obtain ⟨q25, hs25⟩ := bO_ex ho
      obtain ⟨s25, r25⟩ := q25
      replace ho := bO_go ho hs25
      refine sp_12022 hE hP24  hs25 (fun I25 hb25 hP25 hF25 => ?_)
      have hF25 := hF24.tr hF25
      refine us_iret hR dX11_operand_170 rfl (nar01 hb25) ?_
      cases ho
      exact h2 _ hb25 hP25 hF25
    · rw [if_pos c23] at ho
      refine us_iconstC hR dX11_operand_154 (c := 0) (by decide) ?_
      refine us_iret hR dX11_operand_155 rfl (nar01 (Or.inl rfl)) ?_
      cases ho
      exact h2 _ (Or.inl rfl) hP22 hF22
  · rw [if_neg (i_sw_x (v := 27) (w := 1) c5 (by decide)), if_neg (i_sw_x (v := 27) (w := 2) c5 (by decide)), if_neg (i_sw_x (v := 27) (w := 8) c5 (by decide)), if_neg (i_sw_x (v := 27) (w := 12) c5 (by decide)), if_neg (i_sw_x (v := 27) (w := 24) c5 (by decide)), if_neg (i_sw_x (v := 27) (w := 26) c5 (by decide)), if_pos (i_sw (v := 27) c5)] at ho
    refine us_aload_n hR dX11_operand_200 rfl ?_
    refine us_getIx hR dX11_operand_201 fR_12_266 hE.2.1 rfl (RepM_f hP 32) ?_
    refine us_iconstC hR dX11_operand_204 (c := 3) (by decide) ?_
    refine us_icmp_ne hR dX11_operand_205 215 (by decide) (fun c26 => ?_) (fun c26 => ?_)
    · rw [if_neg c26] at ho
      refine us_aload_n hR dX11_operand_215 rfl ?_
      refine us_iconstC hR dX11_operand_216 (c := 3) (by decide) ?_
      refine us_callV hR dX11_operand_217 (y := 12020) (by decide +kernel) (by decide) (J := i12020) rfl rfl rfl rfl hE.2.1 rfl (Nat.le_of_ble_eq_true rfl) (Nat.zero_le _) (Nat.zero_le _) ?_
      refine sp_12020 hE hP  (fun I27 q27 hs27 hb27 hP27 hF27 => ?_)
      rw [← hs27] at ho
      obtain ⟨s27, r27⟩ := q27
      rw [bT_eq] at ho
      have hF27 := hF.tr hF27
      refine us_iret hR dX11_operand_220 rfl (nar01 hb27) ?_
      cases ho
      exact h2 _ hb27 hP27 hF27
    · rw [if_pos c26] at ho
      refine us_aload_n hR dX11_operand_208 rfl ?_
      refine us_callV hR dX11_operand_209 (y := 12036) (by decide +kernel) (by decide) (J := i12036) rfl rfl rfl rfl hE.2.1 rfl (Nat.le_of_ble_eq_true rfl) (Nat.zero_le _) (Nat.zero_le _) ?_
      obtain ⟨q28, hs28⟩ := bO_ex ho
      obtain ⟨s28, r28⟩ := q28
      replace ho := bO_go ho hs28
      refine sp_12036 hE hP  hs28 (fun I28 hb28 hP28 hF28 => ?_)
      have hF28 := hF.tr hF28
      refine us_goto hR dX11_operand_212 220 (by decide) ?_
      refine us_iret hR dX11_operand_220 rfl (nar01 hb28) ?_
      cases ho
      exact h2 _ hb28 hP28 hF28
  · rw [if_neg (i_sw_x (v := 32) (w := 1) c5 (by decide)), if_neg (i_sw_x (v := 32) (w := 2) c5 (by decide)), if_neg (i_sw_x (v := 32) (w := 8) c5 (by decide)), if_neg (i_sw_x (v := 32) (w := 12) c5 (by decide)), if_neg (i_sw_x (v := 32) (w := 24) c5 (by decide)), if_neg (i_sw_x (v := 32) (w := 26) c5 (by decide)), if_neg (i_sw_x (v := 32) (w := 27) c5 (by decide)), if_pos (i_sw (v := 32) c5)] at ho
    exact h12043_J171   s I _ _ hP hF ho
  · rw [if_neg (i_sw_n (v := 1) c5_0), if_neg (i_sw_n (v := 2) c5_1), if_neg (i_sw_n (v := 8) c5_2), if_neg (i_sw_n (v := 12) c5_3), if_neg (i_sw_n (v := 24) c5_4), if_neg (i_sw_n (v := 26) c5_5), if_neg (i_sw_n (v := 27) c5_6), if_neg (i_sw_n (v := 32) c5_7)] at ho
    refine us_aload_n hR dX11_operand_240 rfl ?_
    refine us_iconstC hR dX11_operand_241 (c := 3) (by decide) ?_
    refine us_callV hR dX11_operand_242 (y := 12020) (by decide +kernel) (by decide) (J := i12020) rfl rfl rfl rfl hE.2.1 rfl (Nat.le_of_ble_eq_true rfl) (Nat.zero_le _) (Nat.zero_le _) ?_
    refine sp_12020 hE hP  (fun I29 q29 hs29 hb29 hP29 hF29 => ?_)
    rw [← hs29] at ho
    obtain ⟨s29, r29⟩ := q29
    rw [bT_eq] at ho
    have hF29 := hF.tr hF29
    refine us_iret hR dX11_operand_245 rfl (nar01 hb29) ?_
    cases ho
    exact h2 _ hb29 hP29 hF29
def f_12046 (x0 : Int32) (s : Mx) : Option (Mx × Int32) :=
  bOv (f_12032 1 s) fun s1 =>
  if x0 = 42 then
    gd (vi ((mf s1 35) - 1) 100) <|
    gd (vi (mg s1 21 ((mf s1 35) - 1)) 110) <|
    gd (vi (mg s1 21 ((mf s1 35) - 1)) 110) <|
    bS (ms s1 18 (mg s1 21 ((mf s1 35) - 1)) ((mg s1 18 (mg s1 21 ((mf s1 35) - 1))) + 1)) fun s9 =>
    bO (f_12036 s9) fun s10 r10 =>
    some (s10, r10)
  else
    bS (mp s1 35 ((mf s1 35) - 1)) fun s3 =>
    bS (mp s3 33 ((mf s3 33) - 1)) fun s4 =>
    bO (f_12022 27 4 s4) fun s5 r5 =>
    if r5 = 0 then
      some (s5, 0)
    else
      bO (f_12034 s5) fun s7 r7 =>
      if r7 = 0 then
        some (s7, 0)
      else
        some (s7, 1)
theorem sp_12046 {d : Nat} {G : ab_G} {ad : Nat → Nat} {I : Nat → Nat → Int32} {s : Mx} {P : ab_Pq} {X : ab_Xq} (hE : EM G ad) (hP : RepM I ad s) {x0 : Int32}  {o : Mx × Int32} (ho : f_12046 x0 s = some o) (h : ∀ I1, (o.2 = 0 ∨ o.2 = 1) → RepM I1 ad o.1 → FrM ad I I1 → P (gW G I1) (some (.int o.2))) : ab_Gam (d + 4) 12046 [.ref (ad 0), .int x0] (gW G I) P X := by
  have h2 := h
  have hF : FrM ad I I := FrM_rfl
  unfold f_12046 at ho
  refine ab_enter (I := i12046) rfl (Nat.le_of_ble_eq_true rfl) (fun R hR => ?_)
  refine us_aload_n hR dX11_closes_0 rfl ?_
  refine us_iconstC hR dX11_closes_1 (c := 1) (by decide) ?_
  refine us_callV hR dX11_closes_2 (y := 12032) (by decide +kernel) (by decide) (J := i12032) rfl rfl rfl rfl hE.2.1 rfl (Nat.le_of_ble_eq_true rfl) (Nat.zero_le _) (Nat.zero_le _) ?_
  obtain ⟨s1, hs1⟩ := bOv_ex ho
  replace ho := bOv_go ho hs1
  refine sp_12032 hE hP  hs1 (fun I1 hP1 hF1 => ?_)
  have hF1 := hF.tr hF1
  refine us_iload_n hR dX11_closes_5 rfl ?_
  refine us_bipushC hR dX11_closes_6 (c := 42) (by decide) ?_
  refine us_icmp_ne hR dX11_closes_8 36 (by decide) (fun c2 => ?_) (fun c2 => ?_)
  · rw [if_neg c2] at ho
    refine us_aload_n hR dX11_closes_36 rfl ?_
    refine us_dup hR dX11_closes_37 rfl ?_
    refine us_getIx hR dX11_closes_38 fR_12_275 hE.2.1 rfl (RepM_f hP1 35) ?_
    refine us_iconstC hR dX11_closes_41 (c := 1) (by decide) ?_
    refine us_isub hR dX11_closes_42 ?_
    refine us_putIM hE hP1 35 hR dX11_closes_43 fR_12_275 (Or.inl rfl) rfl rfl (fun I3 s3 hs3 hP3 hF3 => ?_)
    rw [← hs3, bS_eq] at ho
    have hF3 := hF1.tr hF3
    refine us_aload_n hR dX11_closes_46 rfl ?_
    refine us_dup hR dX11_closes_47 rfl ?_
    refine us_getIx hR dX11_closes_48 fR_12_278 hE.2.1 rfl (RepM_f hP3 33) ?_
    refine us_iconstC hR dX11_closes_51 (c := 1) (by decide) ?_
    refine us_isub hR dX11_closes_52 ?_
    refine us_putIM hE hP3 33 hR dX11_closes_53 fR_12_278 (Or.inl rfl) rfl rfl (fun I4 s4 hs4 hP4 hF4 => ?_)
    rw [← hs4, bS_eq] at ho
    have hF4 := hF3.tr hF4
    refine us_aload_n hR dX11_closes_56 rfl ?_
    refine us_bipushC hR dX11_closes_57 (c := 27) (by decide) ?_
    refine us_iconstC hR dX11_closes_59 (c := 4) (by decide) ?_
    refine us_callV hR dX11_closes_60 (y := 12022) (by decide +kernel) (by decide) (J := i12022) rfl rfl rfl rfl hE.2.1 rfl (Nat.le_of_ble_eq_true rfl) (Nat.zero_le _) (Nat.zero_le _) ?_
    obtain ⟨q5, hs5⟩ := bO_ex ho
    obtain ⟨s5, r5⟩ := q5
    replace ho := bO_go ho hs5
    refine sp_12022 hE hP4  hs5 (fun I5 hb5 hP5 hF5 => ?_)
    have hF5 := hF4.tr hF5
    refine us_if_eq hR dX11_closes_63 77 (by decide) (fun c6 => ?_) (fun c6 => ?_)
    · rw [if_pos c6] at ho
      refine us_iconstC hR dX11_closes_77 (c := 0) (by decide) ?_
      refine us_iret hR dX11_closes_78 rfl (nar01 (Or.inl rfl)) ?_
      cases ho
      exact h2 _ (Or.inl rfl) hP5 hF5
    · rw [if_neg c6] at ho
      refine us_aload_n hR dX11_closes_66 rfl ?_
      refine us_callV hR dX11_closes_67 (y := 12034) (by decide +kernel) (by decide) (J := i12034) rfl rfl rfl rfl hE.2.1 rfl (Nat.le_of_ble_eq_true rfl) (Nat.zero_le _) (Nat.zero_le _) ?_
      obtain ⟨q7, hs7⟩ := bO_ex ho
      obtain ⟨s7, r7⟩ := q7
      replace ho := bO_go ho hs7
      refine sp_12034 hE hP5  hs7 (fun I7 hb7 hP7 hF7 => ?_)
      have hF7 := hF5.tr hF7
      refine us_if_eq hR dX11_closes_70 77 (by decide) (fun c8 => ?_) (fun c8 => ?_)
      · rw [if_pos c8] at ho
        refine us_iconstC hR dX11_closes_77 (c := 0) (by decide) ?_
        refine us_iret hR dX11_closes_78 rfl (nar01 (Or.inl rfl)) ?_
        cases ho
        exact h2 _ (Or.inl rfl) hP7 hF7
      · rw [if_neg c8] at ho
        refine us_iconstC hR dX11_closes_73 (c := 1) (by decide) ?_
        refine us_goto hR dX11_closes_74 78 (by decide) ?_
        refine us_iret hR dX11_closes_78 rfl (nar01 (Or.inr rfl)) ?_
        cases ho
        exact h2 _ (Or.inr rfl) hP7 hF7
  · rw [if_pos c2] at ho
    refine us_aload_n hR dX11_closes_11 rfl ?_
    refine us_getR hR dX11_closes_12 fR_12_62 hE.2.1 rfl (em_r_30 hE) ?_
    refine us_aload_n hR dX11_closes_15 rfl ?_
    refine us_getR hR dX11_closes_16 fR_12_71 hE.2.1 rfl (em_r_37 hE) ?_
    refine us_aload_n hR dX11_closes_19 rfl ?_
    refine us_getIx hR dX11_closes_20 fR_12_275 hE.2.1 rfl (RepM_f hP1 35) ?_
    refine us_iconstC hR dX11_closes_23 (c := 1) (by decide) ?_
    refine us_isub hR dX11_closes_24 ?_
    have hg := gd_c ho
    rw [gd_e hg] at ho
    refine us_ialoadM hE hP1 (em_q_37 hE) hR dX11_closes_25 hg ?_
    refine us_dup2 hR dX11_closes_26 rfl rfl ?_
    have hg := gd_c ho
    rw [gd_e hg] at ho
    refine us_ialoadM hE hP1 (em_q_30 hE) hR dX11_closes_27 hg ?_
    refine us_iconstC hR dX11_closes_28 (c := 1) (by decide) ?_
    refine us_iadd hR dX11_closes_29 ?_
    have hg := gd_c ho
    rw [gd_e hg] at ho
    refine us_iastoreM hE hP1 (em_q_30 hE) hR dX11_closes_30 hg (fun I9 s9 hs9 hP9 hF9 => ?_)
    rw [← hs9, bS_eq] at ho
    have hF9 := hF1.tr hF9
    refine us_aload_n hR dX11_closes_31 rfl ?_
    refine us_callV hR dX11_closes_32 (y := 12036) (by decide +kernel) (by decide) (J := i12036) rfl rfl rfl rfl hE.2.1 rfl (Nat.le_of_ble_eq_true rfl) (Nat.zero_le _) (Nat.zero_le _) ?_
    obtain ⟨q10, hs10⟩ := bO_ex ho
    obtain ⟨s10, r10⟩ := q10
    replace ho := bO_go ho hs10
    refine sp_12036 hE hP9  hs10 (fun I10 hb10 hP10 hF10 => ?_)
    have hF10 := hF9.tr hF10
    refine us_iret hR dX11_closes_35 rfl (nar01 hb10) ?_
    cases ho
    exact h2 _ hb10 hP10 hF10
def f_12047_J60  (l1 : Int32) (k0 : Int32) (s : Mx) : Option (Mx × Int32) :=
  gd (vi (mf s 35) 100) <|
  bO (f_12021 k0 (mg s 21 (mf s 35)) s) fun s1 r1 =>
  gd (vi (mf s1 43) 100) <|
  bS (ms s1 8 (mf s1 43) (mf s1 14)) fun s2 =>
  bO (f_12022 31 0 s2) fun s3 r3 =>
  some (s3, r3)
def f_12047  (s : Mx) : Option (Mx × Int32) :=
  bOv (f_12032 1 s) fun s4 =>
  bS (mp s4 35 ((mf s4 35) - 1)) fun s5 =>
  gd (vi (mf s5 35) 100) <|
  if (mg s5 20 (mf s5 35)) = 43 then
    f_12047_J60 (mg s5 20 (mf s5 35)) 3 s5
  else
    if (mg s5 20 (mf s5 35)) = 44 then
      f_12047_J60 (mg s5 20 (mf s5 35)) 11 s5
    else
      if (mg s5 20 (mf s5 35)) = 45 then
        f_12047_J60 (mg s5 20 (mf s5 35)) 15 s5
      else
        f_12047_J60 (mg s5 20 (mf s5 35)) 12 s5
theorem sp_12047 {d : Nat} {G : ab_G} {ad : Nat → Nat} {I : Nat → Nat → Int32} {s : Mx} {P : ab_Pq} {X : ab_Xq} (hE : EM G ad) (hP : RepM I ad s)   {o : Mx × Int32} (ho : f_12047 s = some o) (h : ∀ I1, (o.2 = 0 ∨ o.2 = 1) → RepM I1 ad o.1 → FrM ad I I1 → P (gW G I1) (some (.int o.2))) : ab_Gam (d + 3) 12047 [.ref (ad 0)] (gW G I) P X := by
  have h2 := h
  have hF : FrM ad I I := FrM_rfl
  unfold f_12047 at ho
  refine ab_enter (I := i12047) rfl (Nat.le_of_ble_eq_true rfl) (fun R hR => ?_)
  have h12047_J60 : ∀ (l1 : Int32) (k0 : Int32)  (s : Mx) (Ia : Nat → Nat → Int32) (bc bs : Nat) (hPa : RepM Ia ad s) (hFa : FrM ad I Ia) (ho : f_12047_J60 l1 k0 s = some o), R 60 [some (.ref (ad 0)), some (.int l1), none] [.int k0, .ref (ad 0)] (gW G Ia) bc bs := by
    intro l1 k0  s Ia bc bs  hPa hFa ho
    unfold f_12047_J60 at ho
    refine us_aload_n hR dX11_stops_60 rfl ?_
    refine us_getR hR dX11_stops_61 fR_12_71 hE.2.1 rfl (em_r_37 hE) ?_
    refine us_aload_n hR dX11_stops_64 rfl ?_
    refine us_getIx hR dX11_stops_65 fR_12_275 hE.2.1 rfl (RepM_f hPa 35) ?_
    have hg := gd_c ho
    rw [gd_e hg] at ho
    refine us_ialoadM hE hPa (em_q_37 hE) hR dX11_stops_68 hg ?_
    refine us_callV hR dX11_stops_69 (y := 12021) (by decide +kernel) (by decide) (J := i12021) rfl rfl rfl rfl hE.2.1 rfl (Nat.le_of_ble_eq_true rfl) (Nat.zero_le _) (Nat.zero_le _) ?_
    obtain ⟨q1, hs1⟩ := bO_ex ho
    obtain ⟨s1, r1⟩ := q1
    replace ho := bO_go ho hs1
    refine sp_12021 hE hPa  hs1 (fun I1 hP1 hF1 => ?_)
    have hF1 := hFa.tr hF1
    refine us_istore_n hR dX11_stops_72 (Nat.le_of_ble_eq_true rfl) ?_
    refine us_aload_n hR dX11_stops_73 rfl ?_
    refine us_getR hR dX11_stops_74 fR_12_32 hE.2.1 rfl (em_r_18 hE) ?_
    refine us_aload_n hR dX11_stops_77 rfl ?_
    refine us_getIx hR dX11_stops_78 fR_12_272 hE.2.1 rfl (RepM_f hP1 43) ?_
    refine us_aload_n hR dX11_stops_81 rfl ?_
    refine us_getIx hR dX11_stops_82 fR_12_263 hE.2.1 rfl (RepM_f hP1 14) ?_
    have hg := gd_c ho
    rw [gd_e hg] at ho
    refine us_iastoreM hE hP1 (em_q_18 hE) hR dX11_stops_85 hg (fun I2 s2 hs2 hP2 hF2 => ?_)
    rw [← hs2, bS_eq] at ho
    have hF2 := hF1.tr hF2
    refine us_aload_n hR dX11_stops_86 rfl ?_
    refine us_bipushC hR dX11_stops_87 (c := 31) (by decide) ?_
    refine us_iconstC hR dX11_stops_89 (c := 0) (by decide) ?_
    refine us_callV hR dX11_stops_90 (y := 12022) (by decide +kernel) (by decide) (J := i12022) rfl rfl rfl rfl hE.2.1 rfl (Nat.le_of_ble_eq_true rfl) (Nat.zero_le _) (Nat.zero_le _) ?_
    obtain ⟨q3, hs3⟩ := bO_ex ho
    obtain ⟨s3, r3⟩ := q3
    replace ho := bO_go ho hs3
    refine sp_12022 hE hP2  hs3 (fun I3 hb3 hP3 hF3 => ?_)
    have hF3 := hF2.tr hF3
    refine us_iret hR dX11_stops_93 rfl (nar01 hb3) ?_
    cases ho
    exact h2 _ hb3 hP3 hF3
  refine us_aload_n hR dX11_stops_0 rfl ?_
  refine us_iconstC hR dX11_stops_1 (c := 1) (by decide) ?_
  refine us_callV hR dX11_stops_2 (y := 12032) (by decide +kernel) (by decide) (J := i12032) rfl rfl rfl rfl hE.2.1 rfl (Nat.le_of_ble_eq_true rfl) (Nat.zero_le _) (Nat.zero_le _) ?_
  obtain ⟨s4, hs4⟩ := bOv_ex ho
  replace ho := bOv_go ho hs4
  refine sp_12032 hE hP  hs4 (fun I4 hP4 hF4 => ?_)
  have hF4 := hF.tr hF4
  refine us_aload_n hR dX11_stops_5 rfl ?_
  refine us_dup hR dX11_stops_6 rfl ?_
  refine us_getIx hR dX11_stops_7 fR_12_275 hE.2.1 rfl (RepM_f hP4 35) ?_
  refine us_iconstC hR dX11_stops_10 (c := 1) (by decide) ?_
  refine us_isub hR dX11_stops_11 ?_
  refine us_putIM hE hP4 35 hR dX11_stops_12 fR_12_275 (Or.inl rfl) rfl rfl (fun I5 s5 hs5 hP5 hF5 => ?_)
  rw [← hs5, bS_eq] at ho
  have hF5 := hF4.tr hF5
  refine us_aload_n hR dX11_stops_15 rfl ?_
  refine us_getR hR dX11_stops_16 fR_12_68 hE.2.1 rfl (em_r_36 hE) ?_
  refine us_aload_n hR dX11_stops_19 rfl ?_
  refine us_getIx hR dX11_stops_20 fR_12_275 hE.2.1 rfl (RepM_f hP5 35) ?_
  have hg := gd_c ho
  rw [gd_e hg] at ho
  refine us_ialoadM hE hP5 (em_q_36 hE) hR dX11_stops_23 hg ?_
  refine us_istore_n hR dX11_stops_24 (Nat.le_of_ble_eq_true rfl) ?_
  refine us_aload_n hR dX11_stops_25 rfl ?_
  refine us_iload_n hR dX11_stops_26 rfl ?_
  refine us_bipushC hR dX11_stops_27 (c := 43) (by decide) ?_
  refine us_icmp_ne hR dX11_stops_29 36 (by decide) (fun c6 => ?_) (fun c6 => ?_)
  · rw [if_neg c6] at ho
    refine us_iload_n hR dX11_stops_36 rfl ?_
    refine us_bipushC hR dX11_stops_37 (c := 44) (by decide) ?_
    refine us_icmp_ne hR dX11_stops_39 47 (by decide) (fun c7 => ?_) (fun c7 => ?_)
    · rw [if_neg c7] at ho
      refine us_iload_n hR dX11_stops_47 rfl ?_
      refine us_bipushC hR dX11_stops_48 (c := 45) (by decide) ?_
      refine us_icmp_ne hR dX11_stops_50 58 (by decide) (fun c8 => ?_) (fun c8 => ?_)
      · rw [if_neg c8] at ho
        refine us_bipushC hR dX11_stops_58 (c := 12) (by decide) ?_
        exact h12047_J60 (mg s5 20 (mf s5 35)) 12  s5 I5 _ _ hP5 hF5 ho
      · rw [if_pos c8] at ho
        refine us_bipushC hR dX11_stops_53 (c := 15) (by decide) ?_
        refine us_goto hR dX11_stops_55 60 (by decide) ?_
        exact h12047_J60 (mg s5 20 (mf s5 35)) 15  s5 I5 _ _ hP5 hF5 ho
    · rw [if_pos c7] at ho
      refine us_bipushC hR dX11_stops_42 (c := 11) (by decide) ?_
      refine us_goto hR dX11_stops_44 60 (by decide) ?_
      exact h12047_J60 (mg s5 20 (mf s5 35)) 11  s5 I5 _ _ hP5 hF5 ho
  · rw [if_pos c6] at ho
    refine us_iconstC hR dX11_stops_32 (c := 3) (by decide) ?_
    refine us_goto hR dX11_stops_33 60 (by decide) ?_
    exact h12047_J60 (mg s5 20 (mf s5 35)) 3  s5 I5 _ _ hP5 hF5 ho
def f_12048_J59  (l1 : Int32) (k0 : Int32) (s : Mx) : Option (Mx × Int32) :=
  gd (vi (mf s 38) 10) <|
  bO (f_12037 k0 (mf s 43) l1 (mg s 25 (mf s 38)) s) fun s1 r1 =>
  some (s1, r1)
def f_12048  (s : Mx) : Option (Mx × Int32) :=
  if (mf s 33) = 8 then
    bT (f_12020 4 s) fun s7 r7 =>
    some (s7, r7)
  else
    bOv (f_12032 1 s) fun s3 =>
    bS (mp s3 35 ((mf s3 35) - 1)) fun s4 =>
    bO (f_12021 13 0 s4) fun s5 r5 =>
    gd (vi (mf s5 35) 100) <|
    if (mg s5 20 (mf s5 35)) = 46 then
      f_12048_J59 r5 4 s5
    else
      f_12048_J59 r5 6 s5
theorem sp_12048 {d : Nat} {G : ab_G} {ad : Nat → Nat} {I : Nat → Nat → Int32} {s : Mx} {P : ab_Pq} {X : ab_Xq} (hE : EM G ad) (hP : RepM I ad s)   {o : Mx × Int32} (ho : f_12048 s = some o) (h : ∀ I1, (o.2 = 0 ∨ o.2 = 1) → RepM I1 ad o.1 → FrM ad I I1 → P (gW G I1) (some (.int o.2))) : ab_Gam (d + 4) 12048 [.ref (ad 0)] (gW G I) P X := by
  have h2 := h
  have hF : FrM ad I I := FrM_rfl
  unfold f_12048 at ho
  refine ab_enter (I := i12048) rfl (Nat.le_of_ble_eq_true rfl) (fun R hR => ?_)
  have h12048_J59 : ∀ (l1 : Int32) (k0 : Int32)  (s : Mx) (Ia : Nat → Nat → Int32) (bc bs : Nat) (hPa : RepM Ia ad s) (hFa : FrM ad I Ia) (ho : f_12048_J59 l1 k0 s = some o), R 59 [some (.ref (ad 0)), some (.int l1)] [.int k0, .ref (ad 0)] (gW G Ia) bc bs := by
    intro l1 k0  s Ia bc bs  hPa hFa ho
    unfold f_12048_J59 at ho
    refine us_aload_n hR dX11_begins__59 rfl ?_
    refine us_getIx hR dX11_begins__60 fR_12_272 hE.2.1 rfl (RepM_f hPa 43) ?_
    refine us_iload_n hR dX11_begins__63 rfl ?_
    refine us_aload_n hR dX11_begins__64 rfl ?_
    refine us_getR hR dX11_begins__65 fR_12_83 hE.2.1 rfl (em_r_42 hE) ?_
    refine us_aload_n hR dX11_begins__68 rfl ?_
    refine us_getIx hR dX11_begins__69 fR_12_326 hE.2.1 rfl (RepM_f hPa 38) ?_
    have hg := gd_c ho
    rw [gd_e hg] at ho
    refine us_ialoadM hE hPa (em_q_42 hE) hR dX11_begins__72 hg ?_
    refine us_callV hR dX11_begins__73 (y := 12037) (by decide +kernel) (by decide) (J := i12037) rfl rfl rfl rfl hE.2.1 rfl (Nat.le_of_ble_eq_true rfl) (Nat.zero_le _) (Nat.zero_le _) ?_
    obtain ⟨q1, hs1⟩ := bO_ex ho
    obtain ⟨s1, r1⟩ := q1
    replace ho := bO_go ho hs1
    refine sp_12037 hE hPa  hs1 (fun I1 hb1 hP1 hF1 => ?_)
    have hF1 := hFa.tr hF1
    refine us_iret hR dX11_begins__76 rfl (nar01 hb1) ?_
    cases ho
    exact h2 _ hb1 hP1 hF1
  refine us_aload_n hR dX11_begins__0 rfl ?_
  refine us_getIx hR dX11_begins__1 fR_12_278 hE.2.1 rfl (RepM_f hP 33) ?_
  refine us_bipushC hR dX11_begins__4 (c := 8) (by decide) ?_
  refine us_icmp_ne hR dX11_begins__6 15 (by decide) (fun c2 => ?_) (fun c2 => ?_)
  · rw [if_neg c2] at ho
    refine us_aload_n hR dX11_begins__15 rfl ?_
    refine us_iconstC hR dX11_begins__16 (c := 1) (by decide) ?_
    refine us_callV hR dX11_begins__17 (y := 12032) (by decide +kernel) (by decide) (J := i12032) rfl rfl rfl rfl hE.2.1 rfl (Nat.le_of_ble_eq_true rfl) (Nat.zero_le _) (Nat.zero_le _) ?_
    obtain ⟨s3, hs3⟩ := bOv_ex ho
    replace ho := bOv_go ho hs3
    refine sp_12032 hE hP  hs3 (fun I3 hP3 hF3 => ?_)
    have hF3 := hF.tr hF3
    refine us_aload_n hR dX11_begins__20 rfl ?_
    refine us_dup hR dX11_begins__21 rfl ?_
    refine us_getIx hR dX11_begins__22 fR_12_275 hE.2.1 rfl (RepM_f hP3 35) ?_
    refine us_iconstC hR dX11_begins__25 (c := 1) (by decide) ?_
    refine us_isub hR dX11_begins__26 ?_
    refine us_putIM hE hP3 35 hR dX11_begins__27 fR_12_275 (Or.inl rfl) rfl rfl (fun I4 s4 hs4 hP4 hF4 => ?_)
    rw [← hs4, bS_eq] at ho
    have hF4 := hF3.tr hF4
    refine us_aload_n hR dX11_begins__30 rfl ?_
    refine us_bipushC hR dX11_begins__31 (c := 13) (by decide) ?_
    refine us_iconstC hR dX11_begins__33 (c := 0) (by decide) ?_
    refine us_callV hR dX11_begins__34 (y := 12021) (by decide +kernel) (by decide) (J := i12021) rfl rfl rfl rfl hE.2.1 rfl (Nat.le_of_ble_eq_true rfl) (Nat.zero_le _) (Nat.zero_le _) ?_
    obtain ⟨q5, hs5⟩ := bO_ex ho
    obtain ⟨s5, r5⟩ := q5
    replace ho := bO_go ho hs5
    refine sp_12021 hE hP4  hs5 (fun I5 hP5 hF5 => ?_)
    have hF5 := hF4.tr hF5
    refine us_istore_n hR dX11_begins__37 (Nat.le_of_ble_eq_true rfl) ?_
    refine us_aload_n hR dX11_begins__38 rfl ?_
    refine us_aload_n hR dX11_begins__39 rfl ?_
    refine us_getR hR dX11_begins__40 fR_12_68 hE.2.1 rfl (em_r_36 hE) ?_
    refine us_aload_n hR dX11_begins__43 rfl ?_
    refine us_getIx hR dX11_begins__44 fR_12_275 hE.2.1 rfl (RepM_f hP5 35) ?_
    have hg := gd_c ho
    rw [gd_e hg] at ho
    refine us_ialoadM hE hP5 (em_q_36 hE) hR dX11_begins__47 hg ?_
    refine us_bipushC hR dX11_begins__48 (c := 46) (by decide) ?_
    refine us_icmp_ne hR dX11_begins__50 57 (by decide) (fun c6 => ?_) (fun c6 => ?_)
    · rw [if_neg c6] at ho
      refine us_bipushC hR dX11_begins__57 (c := 6) (by decide) ?_
      exact h12048_J59 r5 6  s5 I5 _ _ hP5 hF5 ho
    · rw [if_pos c6] at ho
      refine us_iconstC hR dX11_begins__53 (c := 4) (by decide) ?_
      refine us_goto hR dX11_begins__54 59 (by decide) ?_
      exact h12048_J59 r5 4  s5 I5 _ _ hP5 hF5 ho
  · rw [if_pos c2] at ho
    refine us_aload_n hR dX11_begins__9 rfl ?_
    refine us_iconstC hR dX11_begins__10 (c := 4) (by decide) ?_
    refine us_callV hR dX11_begins__11 (y := 12020) (by decide +kernel) (by decide) (J := i12020) rfl rfl rfl rfl hE.2.1 rfl (Nat.le_of_ble_eq_true rfl) (Nat.zero_le _) (Nat.zero_le _) ?_
    refine sp_12020 hE hP  (fun I7 q7 hs7 hb7 hP7 hF7 => ?_)
    rw [← hs7] at ho
    obtain ⟨s7, r7⟩ := q7
    rw [bT_eq] at ho
    have hF7 := hF.tr hF7
    refine us_iret hR dX11_begins__14 rfl (nar01 hb7) ?_
    cases ho
    exact h2 _ hb7 hP7 hF7
def f_12045_J132  (l1 : Int32) (l2 : Int32) (s : Mx) : Option (Mx × Int32) :=
  bO (f_12046 l2 s) fun s1 r1 =>
  some (s1, r1)
def f_12045_J56  (l1 : Int32) (k0 : Int32) (s : Mx) : Option (Mx × Int32) :=
  bOv (f_12024 (mf s 5) k0 s) fun s2 =>
  bO (f_12022 (mf s2 5) 2 s2) fun s3 r3 =>
  some (s3, r3)
def f_12045  (s : Mx) : Option (Mx × Int32) :=
  if (f_12031 (mf s 5) s) ≤ 0 then
    bP (f_12033 s) fun r6 =>
    if (mf s 5) = 27 then
      if r6 = 41 then
        f_12045_J132 (f_12031 (mf s 5) s) r6 s
      else
        if r6 = 42 then
          f_12045_J132 (f_12031 (mf s 5) s) r6 s
        else
          bT (f_12020 3 s) fun s11 r11 =>
          some (s11, r11)
    else if (mf s 5) = 28 then
      if r6 = 46 then
        bO (f_12048 s) fun s13 r13 =>
        some (s13, r13)
      else
        if r6 = 47 then
          bO (f_12048 s) fun s16 r16 =>
          some (s16, r16)
        else
          bT (f_12020 3 s) fun s15 r15 =>
          some (s15, r15)
    else if (mf s 5) = 29 then
      bT (f_12020 3 s) fun s17 r17 =>
      some (s17, r17)
    else if (mf s 5) = 30 then
      if r6 = 42 then
        bOv (f_12032 1 s) fun s19 =>
        gd (vi ((mf s19 35) - 1) 100) <|
        gd (vi (mg s19 21 ((mf s19 35) - 1)) 110) <|
        gd (vi (mg s19 21 ((mf s19 35) - 1)) 110) <|
        bS (ms s19 18 (mg s19 21 ((mf s19 35) - 1)) ((mg s19 18 (mg s19 21 ((mf s19 35) - 1))) + 1)) fun s20 =>
        bO (f_12022 30 2 s20) fun s21 r21 =>
        some (s21, r21)
      else
        bT (f_12020 3 s) fun s22 r22 =>
        some (s22, r22)
    else if (mf s 5) = 31 then
      if r6 = 43 then
        bO (f_12047 s) fun s24 r24 =>
        some (s24, r24)
      else
        if r6 = 44 then
          bO (f_12047 s) fun s26 r26 =>
          some (s26, r26)
        else
          if r6 = 45 then
            bO (f_12047 s) fun s28 r28 =>
            some (s28, r28)
          else
            if r6 = 49 then
              bO (f_12047 s) fun s31 r31 =>
              some (s31, r31)
            else
              bT (f_12020 3 s) fun s30 r30 =>
              some (s30, r30)
    else
      bT (f_12020 3 s) fun s8 r8 =>
      some (s8, r8)
  else
    bOv (f_12032 (f_12031 (mf s 5) s) s) fun s32 =>
    if (mf s32 5) = 22 then
      bO (f_12021 6 0 s32) fun s36 r36 =>
      f_12045_J56 (f_12031 (mf s 5) s) r36 s36
    else
      if (mf s32 5) = 23 then
        bO (f_12021 7 0 s32) fun s35 r35 =>
        f_12045_J56 (f_12031 (mf s 5) s) r35 s35
      else
        f_12045_J56 (f_12031 (mf s 5) s) 0 s32
theorem sp_12045 {d : Nat} {G : ab_G} {ad : Nat → Nat} {I : Nat → Nat → Int32} {s : Mx} {P : ab_Pq} {X : ab_Xq} (hE : EM G ad) (hP : RepM I ad s)   {o : Mx × Int32} (ho : f_12045 s = some o) (h : ∀ I1, (o.2 = 0 ∨ o.2 = 1) → RepM I1 ad o.1 → FrM ad I I1 → P (gW G I1) (some (.int o.2))) : ab_Gam (d + 5) 12045 [.ref (ad 0)] (gW G I) P X := by
  have h2 := h
  have hF : FrM ad I I := FrM_rfl
  unfold f_12045 at ho
  refine ab_enter (I := i12045) rfl (Nat.le_of_ble_eq_true rfl) (fun R hR => ?_)
  have h12045_J132 : ∀ (l1 : Int32) (l2 : Int32)  (s : Mx) (Ia : Nat → Nat → Int32) (bc bs : Nat) (hPa : RepM Ia ad s) (hFa : FrM ad I Ia) (ho : f_12045_J132 l1 l2 s = some o), R 132 [some (.ref (ad 0)), some (.int l1), some (.int l2)] [] (gW G Ia) bc bs := by
    intro l1 l2  s Ia bc bs  hPa hFa ho
    unfold f_12045_J132 at ho
    refine us_aload_n hR dX11_operator_132 rfl ?_
    refine us_iload_n hR dX11_operator_133 rfl ?_
    refine us_callV hR dX11_operator_134 (y := 12046) (by decide +kernel) (by decide) (J := i12046) rfl rfl rfl rfl hE.2.1 rfl (Nat.le_of_ble_eq_true rfl) (Nat.zero_le _) (Nat.zero_le _) ?_
    obtain ⟨q1, hs1⟩ := bO_ex ho
    obtain ⟨s1, r1⟩ := q1
    replace ho := bO_go ho hs1
    refine sp_12046 hE hPa  hs1 (fun I1 hb1 hP1 hF1 => ?_)
    have hF1 := hFa.tr hF1
    refine us_goto hR dX11_operator_137 145 (by decide) ?_
    refine us_iret hR dX11_operator_145 rfl (nar01 hb1) ?_
    cases ho
    exact h2 _ hb1 hP1 hF1
  have h12045_J56 : ∀ (l1 : Int32) (k0 : Int32)  (s : Mx) (Ia : Nat → Nat → Int32) (bc bs : Nat) (hPa : RepM Ia ad s) (hFa : FrM ad I Ia) (ho : f_12045_J56 l1 k0 s = some o), R 56 [some (.ref (ad 0)), some (.int l1), none] [.int k0] (gW G Ia) bc bs := by
    intro l1 k0  s Ia bc bs  hPa hFa ho
    unfold f_12045_J56 at ho
    refine us_istore_n hR dX11_operator_56 (Nat.le_of_ble_eq_true rfl) ?_
    refine us_aload_n hR dX11_operator_57 rfl ?_
    refine us_aload_n hR dX11_operator_58 rfl ?_
    refine us_getIx hR dX11_operator_59 fR_12_240 hE.2.1 rfl (RepM_f hPa 5) ?_
    refine us_iload_n hR dX11_operator_62 rfl ?_
    refine us_callV hR dX11_operator_63 (y := 12024) (by decide +kernel) (by decide) (J := i12024) rfl rfl rfl rfl hE.2.1 rfl (Nat.le_of_ble_eq_true rfl) (Nat.zero_le _) (Nat.zero_le _) ?_
    obtain ⟨s2, hs2⟩ := bOv_ex ho
    replace ho := bOv_go ho hs2
    refine sp_12024 hE hPa  hs2 (fun I2 hP2 hF2 => ?_)
    have hF2 := hFa.tr hF2
    refine us_aload_n hR dX11_operator_66 rfl ?_
    refine us_aload_n hR dX11_operator_67 rfl ?_
    refine us_getIx hR dX11_operator_68 fR_12_240 hE.2.1 rfl (RepM_f hP2 5) ?_
    refine us_iconstC hR dX11_operator_71 (c := 2) (by decide) ?_
    refine us_callV hR dX11_operator_72 (y := 12022) (by decide +kernel) (by decide) (J := i12022) rfl rfl rfl rfl hE.2.1 rfl (Nat.le_of_ble_eq_true rfl) (Nat.zero_le _) (Nat.zero_le _) ?_
    obtain ⟨q3, hs3⟩ := bO_ex ho
    obtain ⟨s3, r3⟩ := q3
    replace ho := bO_go ho hs3
    refine sp_12022 hE hP2  hs3 (fun I3 hb3 hP3 hF3 => ?_)
    have hF3 := hF2.tr hF3
    refine us_iret hR dX11_operator_75 rfl (nar01 hb3) ?_
    cases ho
    exact h2 _ hb3 hP3 hF3
  refine us_aload_n hR dX11_operator_0 rfl ?_
  refine us_getIx hR dX11_operator_1 fR_12_240 hE.2.1 rfl (RepM_f hP 5) ?_
  refine us_callS hR dX11_operator_4 (y := 12031) (by decide +kernel) (by decide) (J := i12031) rfl rfl rfl rfl (rest := _) (Nat.le_of_ble_eq_true rfl) (Nat.zero_le _) (Nat.zero_le _) ?_
  refine sp_12031 hE hP  ?_
  refine us_istore_n hR dX11_operator_7 (Nat.le_of_ble_eq_true rfl) ?_
  refine us_iload_n hR dX11_operator_8 rfl ?_
  refine us_if_le hR dX11_operator_9 76 (by decide) (fun c5 => ?_) (fun c5 => ?_)
  · rw [if_pos c5] at ho
    refine us_aload_n hR dX11_operator_76 rfl ?_
    refine us_callV hR dX11_operator_77 (y := 12033) (by decide +kernel) (by decide) (J := i12033) rfl rfl rfl rfl hE.2.1 rfl (Nat.le_of_ble_eq_true rfl) (Nat.zero_le _) (Nat.zero_le _) ?_
    obtain ⟨r6, hr6⟩ := bP_ex ho
    replace ho := bP_go ho hr6
    refine sp_12033 hE hP  hr6 ?_
    refine us_istore_n hR dX11_operator_80 (Nat.le_of_ble_eq_true rfl) ?_
    refine us_aload_n hR dX11_operator_81 rfl ?_
    refine us_getIx hR dX11_operator_82 fR_12_240 hE.2.1 rfl (RepM_f hP 5) ?_
    refine us_tsw hR dX11_operator_85 (fun c7 => ⟨by decide, ?_⟩) (by decide) ⟨fun c7 => ⟨by decide, ?_⟩, fun c7 => ⟨by decide, ?_⟩, fun c7 => ⟨by decide, ?_⟩, fun c7 => ⟨by decide, ?_⟩, fun c7 => ⟨by decide, ?_⟩, trivial⟩
    · rw [if_neg (i_sw_d (v := 27) c7 (by decide)), if_neg (i_sw_d (v := 28) c7 (by decide)), if_neg (i_sw_d (v := 29) c7 (by decide)), if_neg (i_sw_d (v := 30) c7 (by decide)), if_neg (i_sw_d (v := 31) c7 (by decide))] at ho
      refine us_aload_n hR dX11_operator_253 rfl ?_
      refine us_iconstC hR dX11_operator_254 (c := 3) (by decide) ?_
      refine us_callV hR dX11_operator_255 (y := 12020) (by decide +kernel) (by decide) (J := i12020) rfl rfl rfl rfl hE.2.1 rfl (Nat.le_of_ble_eq_true rfl) (Nat.zero_le _) (Nat.zero_le _) ?_
      refine sp_12020 hE hP  (fun I8 q8 hs8 hb8 hP8 hF8 => ?_)
      rw [← hs8] at ho
      obtain ⟨s8, r8⟩ := q8
      rw [bT_eq] at ho
      have hF8 := hF.tr hF8
      refine us_iret hR dX11_operator_258 rfl (nar01 hb8) ?_
      cases ho
      exact h2 _ hb8 hP8 hF8
    · rw [if_pos (i_sw (v := 27) c7)] at ho
      refine us_iload_n hR dX11_operator_120 rfl ?_
      refine us_bipushC hR dX11_operator_121 (c := 41) (by decide) ?_
      refine us_icmp_eq hR dX11_operator_123 132 (by decide) (fun c9 => ?_) (fun c9 => ?_)
      · rw [if_pos c9] at ho
        exact h12045_J132 (f_12031 (mf s 5) s) r6  s I _ _ hP hF ho
      · rw [if_neg c9] at ho
        refine us_iload_n hR dX11_operator_126 rfl ?_
        refine us_bipushC hR dX11_operator_127 (c := 42) (by decide) ?_
        refine us_icmp_ne hR dX11_operator_129 140 (by decide) (fun c10 => ?_) (fun c10 => ?_)
        · rw [if_neg c10] at ho
          refine us_aload_n hR dX11_operator_140 rfl ?_
          refine us_iconstC hR dX11_operator_141 (c := 3) (by decide) ?_
          refine us_callV hR dX11_operator_142 (y := 12020) (by decide +kernel) (by decide) (J := i12020) rfl rfl rfl rfl hE.2.1 rfl (Nat.le_of_ble_eq_true rfl) (Nat.zero_le _) (Nat.zero_le _) ?_
          refine sp_12020 hE hP  (fun I11 q11 hs11 hb11 hP11 hF11 => ?_)
          rw [← hs11] at ho
          obtain ⟨s11, r11⟩ := q11
          rw [bT_eq] at ho
          have hF11 := hF.tr hF11
          refine us_iret hR dX11_operator_145 rfl (nar01 hb11) ?_
          cases ho
          exact h2 _ hb11 hP11 hF11
        · rw [if_pos c10] at ho
          exact h12045_J132 (f_12031 (mf s 5) s) r6  s I _ _ hP hF ho
    · rw [if_neg (i_sw_x (v := 28) (w := 27) c7 (by decide)), if_pos (i_sw (v := 28) c7)] at ho
      refine us_iload_n hR dX11_operator_228 rfl ?_
      refine us_bipushC hR dX11_operator_229 (c := 46) (by decide) ?_
      refine us_icmp_eq hR dX11_operator_231 240 (by decide) (fun c12 => ?_) (fun c12 => ?_)
      · rw [if_pos c12] at ho
        refine us_aload_n hR dX11_operator_240 rfl ?_
        refine us_callV hR dX11_operator_241 (y := 12048) (by decide +kernel) (by decide) (J := i12048) rfl rfl rfl rfl hE.2.1 rfl (Nat.le_of_ble_eq_true rfl) (Nat.zero_le _) (Nat.zero_le _) ?_
        obtain ⟨q13, hs13⟩ := bO_ex ho
        obtain ⟨s13, r13⟩ := q13
        replace ho := bO_go ho hs13
        refine sp_12048 hE hP  hs13 (fun I13 hb13 hP13 hF13 => ?_)
        have hF13 := hF.tr hF13
        refine us_goto hR dX11_operator_244 252 (by decide) ?_
        refine us_iret hR dX11_operator_252 rfl (nar01 hb13) ?_
        cases ho
        exact h2 _ hb13 hP13 hF13
      · rw [if_neg c12] at ho
        refine us_iload_n hR dX11_operator_234 rfl ?_
        refine us_bipushC hR dX11_operator_235 (c := 47) (by decide) ?_
        refine us_icmp_ne hR dX11_operator_237 247 (by decide) (fun c14 => ?_) (fun c14 => ?_)
        · rw [if_neg c14] at ho
          refine us_aload_n hR dX11_operator_247 rfl ?_
          refine us_iconstC hR dX11_operator_248 (c := 3) (by decide) ?_
          refine us_callV hR dX11_operator_249 (y := 12020) (by decide +kernel) (by decide) (J := i12020) rfl rfl rfl rfl hE.2.1 rfl (Nat.le_of_ble_eq_true rfl) (Nat.zero_le _) (Nat.zero_le _) ?_
          refine sp_12020 hE hP  (fun I15 q15 hs15 hb15 hP15 hF15 => ?_)
          rw [← hs15] at ho
          obtain ⟨s15, r15⟩ := q15
          rw [bT_eq] at ho
          have hF15 := hF.tr hF15
          refine us_iret hR dX11_operator_252 rfl (nar01 hb15) ?_
          cases ho
          exact h2 _ hb15 hP15 hF15
        · rw [if_pos c14] at ho
          refine us_aload_n hR dX11_operator_240 rfl ?_
          refine us_callV hR dX11_operator_241 (y := 12048) (by decide +kernel) (by decide) (J := i12048) rfl rfl rfl rfl hE.2.1 rfl (Nat.le_of_ble_eq_true rfl) (Nat.zero_le _) (Nat.zero_le _) ?_
          obtain ⟨q16, hs16⟩ := bO_ex ho
          obtain ⟨s16, r16⟩ := q16
          replace ho := bO_go ho hs16
          refine sp_12048 hE hP  hs16 (fun I16 hb16 hP16 hF16 => ?_)
          have hF16 := hF.tr hF16
          refine us_goto hR dX11_operator_244 252 (by decide) ?_
          refine us_iret hR dX11_operator_252 rfl (nar01 hb16) ?_
          cases ho
          exact h2 _ hb16 hP16 hF16
    · rw [if_neg (i_sw_x (v := 29) (w := 27) c7 (by decide)), if_neg (i_sw_x (v := 29) (w := 28) c7 (by decide)), if_pos (i_sw (v := 29) c7)] at ho
      refine us_aload_n hR dX11_operator_253 rfl ?_
      refine us_iconstC hR dX11_operator_254 (c := 3) (by decide) ?_
      refine us_callV hR dX11_operator_255 (y := 12020) (by decide +kernel) (by decide) (J := i12020) rfl rfl rfl rfl hE.2.1 rfl (Nat.le_of_ble_eq_true rfl) (Nat.zero_le _) (Nat.zero_le _) ?_
      refine sp_12020 hE hP  (fun I17 q17 hs17 hb17 hP17 hF17 => ?_)
      rw [← hs17] at ho
      obtain ⟨s17, r17⟩ := q17
      rw [bT_eq] at ho
      have hF17 := hF.tr hF17
      refine us_iret hR dX11_operator_258 rfl (nar01 hb17) ?_
      cases ho
      exact h2 _ hb17 hP17 hF17
    · rw [if_neg (i_sw_x (v := 30) (w := 27) c7 (by decide)), if_neg (i_sw_x (v := 30) (w := 28) c7 (by decide)), if_neg (i_sw_x (v := 30) (w := 29) c7 (by decide)), if_pos (i_sw (v := 30) c7)] at ho
      refine us_iload_n hR dX11_operator_146 rfl ?_
      refine us_bipushC hR dX11_operator_147 (c := 42) (by decide) ?_
      refine us_icmp_eq hR dX11_operator_149 158 (by decide) (fun c18 => ?_) (fun c18 => ?_)
      · rw [if_pos c18] at ho
        refine us_aload_n hR dX11_operator_158 rfl ?_
        refine us_iconstC hR dX11_operator_159 (c := 1) (by decide) ?_
        refine us_callV hR dX11_operator_160 (y := 12032) (by decide +kernel) (by decide) (J := i12032) rfl rfl rfl rfl hE.2.1 rfl (Nat.le_of_ble_eq_true rfl) (Nat.zero_le _) (Nat.zero_le _) ?_
        obtain ⟨s19, hs19⟩ := bOv_ex ho
        replace ho := bOv_go ho hs19
        refine sp_12032 hE hP  hs19 (fun I19 hP19 hF19 => ?_)
        have hF19 := hF.tr hF19
        refine us_aload_n hR dX11_operator_163 rfl ?_
        refine us_getR hR dX11_operator_164 fR_12_62 hE.2.1 rfl (em_r_30 hE) ?_
        refine us_aload_n hR dX11_operator_167 rfl ?_
        refine us_getR hR dX11_operator_168 fR_12_71 hE.2.1 rfl (em_r_37 hE) ?_
        refine us_aload_n hR dX11_operator_171 rfl ?_
        refine us_getIx hR dX11_operator_172 fR_12_275 hE.2.1 rfl (RepM_f hP19 35) ?_
        refine us_iconstC hR dX11_operator_175 (c := 1) (by decide) ?_
        refine us_isub hR dX11_operator_176 ?_
        have hg := gd_c ho
        rw [gd_e hg] at ho
        refine us_ialoadM hE hP19 (em_q_37 hE) hR dX11_operator_177 hg ?_
        refine us_dup2 hR dX11_operator_178 rfl rfl ?_
        have hg := gd_c ho
        rw [gd_e hg] at ho
        refine us_ialoadM hE hP19 (em_q_30 hE) hR dX11_operator_179 hg ?_
        refine us_iconstC hR dX11_operator_180 (c := 1) (by decide) ?_
        refine us_iadd hR dX11_operator_181 ?_
        have hg := gd_c ho
        rw [gd_e hg] at ho
        refine us_iastoreM hE hP19 (em_q_30 hE) hR dX11_operator_182 hg (fun I20 s20 hs20 hP20 hF20 => ?_)
        rw [← hs20, bS_eq] at ho
        have hF20 := hF19.tr hF20
        refine us_aload_n hR dX11_operator_183 rfl ?_
        refine us_bipushC hR dX11_operator_184 (c := 30) (by decide) ?_
        refine us_iconstC hR dX11_operator_186 (c := 2) (by decide) ?_
        refine us_callV hR dX11_operator_187 (y := 12022) (by decide +kernel) (by decide) (J := i12022) rfl rfl rfl rfl hE.2.1 rfl (Nat.le_of_ble_eq_true rfl) (Nat.zero_le _) (Nat.zero_le _) ?_
        obtain ⟨q21, hs21⟩ := bO_ex ho
        obtain ⟨s21, r21⟩ := q21
        replace ho := bO_go ho hs21
        refine sp_12022 hE hP20  hs21 (fun I21 hb21 hP21 hF21 => ?_)
        have hF21 := hF20.tr hF21
        refine us_iret hR dX11_operator_190 rfl (nar01 hb21) ?_
        cases ho
        exact h2 _ hb21 hP21 hF21
      · rw [if_neg c18] at ho
        refine us_aload_n hR dX11_operator_152 rfl ?_
        refine us_iconstC hR dX11_operator_153 (c := 3) (by decide) ?_
        refine us_callV hR dX11_operator_154 (y := 12020) (by decide +kernel) (by decide) (J := i12020) rfl rfl rfl rfl hE.2.1 rfl (Nat.le_of_ble_eq_true rfl) (Nat.zero_le _) (Nat.zero_le _) ?_
        refine sp_12020 hE hP  (fun I22 q22 hs22 hb22 hP22 hF22 => ?_)
        rw [← hs22] at ho
        obtain ⟨s22, r22⟩ := q22
        rw [bT_eq] at ho
        have hF22 := hF.tr hF22
        refine us_iret hR dX11_operator_157 rfl (nar01 hb22) ?_
        cases ho
        exact h2 _ hb22 hP22 hF22
    · rw [if_neg (i_sw_x (v := 31) (w := 27) c7 (by decide)), if_neg (i_sw_x (v := 31) (w := 28) c7 (by decide)), if_neg (i_sw_x (v := 31) (w := 29) c7 (by decide)), if_neg (i_sw_x (v := 31) (w := 30) c7 (by decide)), if_pos (i_sw (v := 31) c7)] at ho
      refine us_iload_n hR dX11_operator_191 rfl ?_
      refine us_bipushC hR dX11_operator_192 (c := 43) (by decide) ?_
      refine us_icmp_eq hR dX11_operator_194 215 (by decide) (fun c23 => ?_) (fun c23 => ?_)
      · rw [if_pos c23] at ho
        refine us_aload_n hR dX11_operator_215 rfl ?_
        refine us_callV hR dX11_operator_216 (y := 12047) (by decide +kernel) (by decide) (J := i12047) rfl rfl rfl rfl hE.2.1 rfl (Nat.le_of_ble_eq_true rfl) (Nat.zero_le _) (Nat.zero_le _) ?_
        obtain ⟨q24, hs24⟩ := bO_ex ho
        obtain ⟨s24, r24⟩ := q24
        replace ho := bO_go ho hs24
        refine sp_12047 hE hP  hs24 (fun I24 hb24 hP24 hF24 => ?_)
        have hF24 := hF.tr hF24
        refine us_goto hR dX11_operator_219 227 (by decide) ?_
        refine us_iret hR dX11_operator_227 rfl (nar01 hb24) ?_
        cases ho
        exact h2 _ hb24 hP24 hF24
      · rw [if_neg c23] at ho
        refine us_iload_n hR dX11_operator_197 rfl ?_
        refine us_bipushC hR dX11_operator_198 (c := 44) (by decide) ?_
        refine us_icmp_eq hR dX11_operator_200 215 (by decide) (fun c25 => ?_) (fun c25 => ?_)
        · rw [if_pos c25] at ho
          refine us_aload_n hR dX11_operator_215 rfl ?_
          refine us_callV hR dX11_operator_216 (y := 12047) (by decide +kernel) (by decide) (J := i12047) rfl rfl rfl rfl hE.2.1 rfl (Nat.le_of_ble_eq_true rfl) (Nat.zero_le _) (Nat.zero_le _) ?_
          obtain ⟨q26, hs26⟩ := bO_ex ho
          obtain ⟨s26, r26⟩ := q26
          replace ho := bO_go ho hs26
          refine sp_12047 hE hP  hs26 (fun I26 hb26 hP26 hF26 => ?_)
          have hF26 := hF.tr hF26
          refine us_goto hR dX11_operator_219 227 (by decide) ?_
          refine us_iret hR dX11_operator_227 rfl (nar01 hb26) ?_
          cases ho
          exact h2 _ hb26 hP26 hF26
        · rw [if_neg c25] at ho
          refine us_iload_n hR dX11_operator_203 rfl ?_
          refine us_bipushC hR dX11_operator_204 (c := 45) (by decide) ?_
          refine us_icmp_eq hR dX11_operator_206 215 (by decide) (fun c27 => ?_) (fun c27 => ?_)
          · rw [if_pos c27] at ho
            refine us_aload_n hR dX11_operator_215 rfl ?_
            refine us_callV hR dX11_operator_216 (y := 12047) (by decide +kernel) (by decide) (J := i12047) rfl rfl rfl rfl hE.2.1 rfl (Nat.le_of_ble_eq_true rfl) (Nat.zero_le _) (Nat.zero_le _) ?_
            obtain ⟨q28, hs28⟩ := bO_ex ho
            obtain ⟨s28, r28⟩ := q28
            replace ho := bO_go ho hs28
            refine sp_12047 hE hP  hs28 (fun I28 hb28 hP28 hF28 => ?_)
            have hF28 := hF.tr hF28
            refine us_goto hR dX11_operator_219 227 (by decide) ?_
            refine us_iret hR dX11_operator_227 rfl (nar01 hb28) ?_
            cases ho
            exact h2 _ hb28 hP28 hF28
          · rw [if_neg c27] at ho
            refine us_iload_n hR dX11_operator_209 rfl ?_
            refine us_bipushC hR dX11_operator_210 (c := 49) (by decide) ?_
            refine us_icmp_ne hR dX11_operator_212 222 (by decide) (fun c29 => ?_) (fun c29 => ?_)
            · rw [if_neg c29] at ho
              refine us_aload_n hR dX11_operator_222 rfl ?_
              refine us_iconstC hR dX11_operator_223 (c := 3) (by decide) ?_
              refine us_callV hR dX11_operator_224 (y := 12020) (by decide +kernel) (by decide) (J := i12020) rfl rfl rfl rfl hE.2.1 rfl (Nat.le_of_ble_eq_true rfl) (Nat.zero_le _) (Nat.zero_le _) ?_
              refine sp_12020 hE hP  (fun I30 q30 hs30 hb30 hP30 hF30 => ?_)
              rw [← hs30] at ho
              obtain ⟨s30, r30⟩ := q30
              rw [bT_eq] at ho
              have hF30 := hF.tr hF30
              refine us_iret hR dX11_operator_227 rfl (nar01 hb30) ?_
              cases ho
              exact h2 _ hb30 hP30 hF30
            · rw [if_pos c29] at ho
              refine us_aload_n hR dX11_operator_215 rfl ?_
              refine us_callV hR dX11_operator_216 (y := 12047) (by decide +kernel) (by decide) (J := i12047) rfl rfl rfl rfl hE.2.1 rfl (Nat.le_of_ble_eq_true rfl) (Nat.zero_le _) (Nat.zero_le _) ?_
              obtain ⟨q31, hs31⟩ := bO_ex ho
              obtain ⟨s31, r31⟩ := q31
              replace ho := bO_go ho hs31
              refine sp_12047 hE hP  hs31 (fun I31 hb31 hP31 hF31 => ?_)
              have hF31 := hF.tr hF31
              refine us_goto hR dX11_operator_219 227 (by decide) ?_
              refine us_iret hR dX11_operator_227 rfl (nar01 hb31) ?_
              cases ho
              exact h2 _ hb31 hP31 hF31
  · rw [if_neg c5] at ho
    refine us_aload_n hR dX11_operator_12 rfl ?_
    refine us_iload_n hR dX11_operator_13 rfl ?_
    refine us_callV hR dX11_operator_14 (y := 12032) (by decide +kernel) (by decide) (J := i12032) rfl rfl rfl rfl hE.2.1 rfl (Nat.le_of_ble_eq_true rfl) (Nat.zero_le _) (Nat.zero_le _) ?_
    obtain ⟨s32, hs32⟩ := bOv_ex ho
    replace ho := bOv_go ho hs32
    refine sp_12032 hE hP  hs32 (fun I32 hP32 hF32 => ?_)
    have hF32 := hF.tr hF32
    refine us_aload_n hR dX11_operator_17 rfl ?_
    refine us_getIx hR dX11_operator_18 fR_12_240 hE.2.1 rfl (RepM_f hP32 5) ?_
    refine us_bipushC hR dX11_operator_21 (c := 22) (by decide) ?_
    refine us_icmp_ne hR dX11_operator_23 36 (by decide) (fun c33 => ?_) (fun c33 => ?_)
    · rw [if_neg c33] at ho
      refine us_aload_n hR dX11_operator_36 rfl ?_
      refine us_getIx hR dX11_operator_37 fR_12_240 hE.2.1 rfl (RepM_f hP32 5) ?_
      refine us_bipushC hR dX11_operator_40 (c := 23) (by decide) ?_
      refine us_icmp_ne hR dX11_operator_42 55 (by decide) (fun c34 => ?_) (fun c34 => ?_)
      · rw [if_neg c34] at ho
        refine us_iconstC hR dX11_operator_55 (c := 0) (by decide) ?_
        exact h12045_J56 (f_12031 (mf s 5) s) 0  s32 I32 _ _ hP32 hF32 ho
      · rw [if_pos c34] at ho
        refine us_aload_n hR dX11_operator_45 rfl ?_
        refine us_bipushC hR dX11_operator_46 (c := 7) (by decide) ?_
        refine us_iconstC hR dX11_operator_48 (c := 0) (by decide) ?_
        refine us_callV hR dX11_operator_49 (y := 12021) (by decide +kernel) (by decide) (J := i12021) rfl rfl rfl rfl hE.2.1 rfl (Nat.le_of_ble_eq_true rfl) (Nat.zero_le _) (Nat.zero_le _) ?_
        obtain ⟨q35, hs35⟩ := bO_ex ho
        obtain ⟨s35, r35⟩ := q35
        replace ho := bO_go ho hs35
        refine sp_12021 hE hP32  hs35 (fun I35 hP35 hF35 => ?_)
        have hF35 := hF32.tr hF35
        refine us_goto hR dX11_operator_52 56 (by decide) ?_
        exact h12045_J56 (f_12031 (mf s 5) s) r35  s35 I35 _ _ hP35 hF35 ho
    · rw [if_pos c33] at ho
      refine us_aload_n hR dX11_operator_26 rfl ?_
      refine us_bipushC hR dX11_operator_27 (c := 6) (by decide) ?_
      refine us_iconstC hR dX11_operator_29 (c := 0) (by decide) ?_
      refine us_callV hR dX11_operator_30 (y := 12021) (by decide +kernel) (by decide) (J := i12021) rfl rfl rfl rfl hE.2.1 rfl (Nat.le_of_ble_eq_true rfl) (Nat.zero_le _) (Nat.zero_le _) ?_
      obtain ⟨q36, hs36⟩ := bO_ex ho
      obtain ⟨s36, r36⟩ := q36
      replace ho := bO_go ho hs36
      refine sp_12021 hE hP32  hs36 (fun I36 hP36 hF36 => ?_)
      have hF36 := hF32.tr hF36
      refine us_goto hR dX11_operator_33 56 (by decide) ?_
      exact h12045_J56 (f_12031 (mf s 5) s) r36  s36 I36 _ _ hP36 hF36 ho
