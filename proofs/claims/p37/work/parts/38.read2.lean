/-! the reader: its methods together -/
/-- the reader's methods that call each other, with fuel for the depth of the calls -/
def f_rd : Nat → Nat → Int32 → Sx → Option Sx
  | 0, _, _, _ => none
  | n + 1, y, a, s =>
  if y = 5008 then f_5008 (f_rd n) s
  else if y = 5009 then f_5009 (f_rd n) s
  else if y = 5010 then f_5010 (f_rd n) s
  else if y = 5011 then f_5011 (f_rd n) s
  else if y = 5012 then f_5012 (f_rd n) s
  else if y = 5013 then f_5013 (f_rd n) s
  else if y = 5014 then f_5014 (f_rd n) s
  else if y = 5019 then f_5019 (f_rd n) s
  else if y = 5020 then f_5020 (f_rd n) s
  else if y = 5021 then f_5021 (f_rd n) s
  else if y = 5017 then f_5017 (f_rd n) a s
  else if y = 5018 then f_5018 (f_rd n) a s
  else none
theorem sp_rd {d : Nat} {G : ab_G} {ad : Nat → Nat} (hE : EV G ad) (hL : LR G ad) (n : Nat) : ∀ y : Nat,
    (y ∈ [5008, 5009, 5010, 5011, 5012, 5013, 5014, 5019, 5020, 5021] → ∀ {s o : Sx} {I : Nat → Nat → Int32} {P : ab_Pq} {X : ab_Xq}, Rep I ad s → f_rd n y 0 s = some o → (∀ I1, Rep I1 ad o → FrE ad I I1 → P (gW G I1) none) → ab_Gam (d + n + 12) y [.ref (ad 2)] (gW G I) P X) ∧
    (y ∈ [5017, 5018] → ∀ {x : Int32} {s o : Sx} {I : Nat → Nat → Int32} {P : ab_Pq} {X : ab_Xq}, Rep I ad s → f_rd n y x s = some o → (∀ I1, Rep I1 ad o → FrE ad I I1 → P (gW G I1) none) → ab_Gam (d + n + 12) y [.ref (ad 2), .int x] (gW G I) P X) := by
  induction n with
  | zero =>
    intro y
    refine ⟨fun _ => ?_, fun _ => ?_⟩
    · intro s o I P X _ hs
      cases hs
    · intro x s o I P X _ hs
      cases hs
  | succ n ih =>
    intro y
    refine ⟨fun hy => ?_, fun hy => ?_⟩
    · intro s o I P X hP hs h
      simp only [List.mem_cons, List.not_mem_nil, or_false] at hy
      rcases hy with rfl | rfl | rfl | rfl | rfl | rfl | rfl | rfl | rfl | rfl
      · rw [f_rd] at hs
        simp only [reduceIte, Nat.reduceEqDiff] at hs
        have := sp_5008 (X := X) (d := d + n + 12) hE hL hP (fun z hz s' o' I' P' X' h1 h2 h3 => (ih z).1 hz h1 h2 h3) (fun z hz x' s' o' I' P' X' h1 h2 h3 => (ih z).2 hz h1 h2 h3) (by omega) hs h
        rw [show d + (n + 1) + 12 = d + n + 12 + 1 by omega]
        exact this
      · rw [f_rd] at hs
        simp only [reduceIte, Nat.reduceEqDiff] at hs
        have := sp_5009 (X := X) (d := d + n + 12) hE hL hP (fun z hz s' o' I' P' X' h1 h2 h3 => (ih z).1 hz h1 h2 h3) (fun z hz x' s' o' I' P' X' h1 h2 h3 => (ih z).2 hz h1 h2 h3) (by omega) hs h
        rw [show d + (n + 1) + 12 = d + n + 12 + 1 by omega]
        exact this
      · rw [f_rd] at hs
        simp only [reduceIte, Nat.reduceEqDiff] at hs
        have := sp_5010 (X := X) (d := d + n + 12) hE hL hP (fun z hz s' o' I' P' X' h1 h2 h3 => (ih z).1 hz h1 h2 h3) (fun z hz x' s' o' I' P' X' h1 h2 h3 => (ih z).2 hz h1 h2 h3) (by omega) hs h
        rw [show d + (n + 1) + 12 = d + n + 12 + 1 by omega]
        exact this
      · rw [f_rd] at hs
        simp only [reduceIte, Nat.reduceEqDiff] at hs
        have := sp_5011 (X := X) (d := d + n + 12) hE hL hP (fun z hz s' o' I' P' X' h1 h2 h3 => (ih z).1 hz h1 h2 h3) (fun z hz x' s' o' I' P' X' h1 h2 h3 => (ih z).2 hz h1 h2 h3) (by omega) hs h
        rw [show d + (n + 1) + 12 = d + n + 12 + 1 by omega]
        exact this
      · rw [f_rd] at hs
        simp only [reduceIte, Nat.reduceEqDiff] at hs
        have := sp_5012 (X := X) (d := d + n + 12) hE hL hP (fun z hz s' o' I' P' X' h1 h2 h3 => (ih z).1 hz h1 h2 h3) (fun z hz x' s' o' I' P' X' h1 h2 h3 => (ih z).2 hz h1 h2 h3) (by omega) hs h
        rw [show d + (n + 1) + 12 = d + n + 12 + 1 by omega]
        exact this
      · rw [f_rd] at hs
        simp only [reduceIte, Nat.reduceEqDiff] at hs
        have := sp_5013 (X := X) (d := d + n + 12) hE hL hP (fun z hz s' o' I' P' X' h1 h2 h3 => (ih z).1 hz h1 h2 h3) (fun z hz x' s' o' I' P' X' h1 h2 h3 => (ih z).2 hz h1 h2 h3) (by omega) hs h
        rw [show d + (n + 1) + 12 = d + n + 12 + 1 by omega]
        exact this
      · rw [f_rd] at hs
        simp only [reduceIte, Nat.reduceEqDiff] at hs
        have := sp_5014 (X := X) (d := d + n + 12) hE hL hP (fun z hz s' o' I' P' X' h1 h2 h3 => (ih z).1 hz h1 h2 h3) (fun z hz x' s' o' I' P' X' h1 h2 h3 => (ih z).2 hz h1 h2 h3) (by omega) hs h
        rw [show d + (n + 1) + 12 = d + n + 12 + 1 by omega]
        exact this
      · rw [f_rd] at hs
        simp only [reduceIte, Nat.reduceEqDiff] at hs
        have := sp_5019 (X := X) (d := d + n + 12) hE hL hP (fun z hz s' o' I' P' X' h1 h2 h3 => (ih z).1 hz h1 h2 h3) (fun z hz x' s' o' I' P' X' h1 h2 h3 => (ih z).2 hz h1 h2 h3) (by omega) hs h
        rw [show d + (n + 1) + 12 = d + n + 12 + 1 by omega]
        exact this
      · rw [f_rd] at hs
        simp only [reduceIte, Nat.reduceEqDiff] at hs
        have := sp_5020 (X := X) (d := d + n + 12) hE hL hP (fun z hz s' o' I' P' X' h1 h2 h3 => (ih z).1 hz h1 h2 h3) (fun z hz x' s' o' I' P' X' h1 h2 h3 => (ih z).2 hz h1 h2 h3) (by omega) hs h
        rw [show d + (n + 1) + 12 = d + n + 12 + 1 by omega]
        exact this
      · rw [f_rd] at hs
        simp only [reduceIte, Nat.reduceEqDiff] at hs
        have := sp_5021 (X := X) (d := d + n + 12) hE hL hP (fun z hz s' o' I' P' X' h1 h2 h3 => (ih z).1 hz h1 h2 h3) (fun z hz x' s' o' I' P' X' h1 h2 h3 => (ih z).2 hz h1 h2 h3) (by omega) hs h
        rw [show d + (n + 1) + 12 = d + n + 12 + 1 by omega]
        exact this
    · intro x s o I P X hP hs h
      simp only [List.mem_cons, List.not_mem_nil, or_false] at hy
      rcases hy with rfl | rfl
      · rw [f_rd] at hs
        simp only [reduceIte, Nat.reduceEqDiff] at hs
        have := sp_5017 (X := X) (d := d + n + 12) hE hL hP (fun z hz s' o' I' P' X' h1 h2 h3 => (ih z).1 hz h1 h2 h3) (fun z hz x' s' o' I' P' X' h1 h2 h3 => (ih z).2 hz h1 h2 h3) (by omega) hs h
        rw [show d + (n + 1) + 12 = d + n + 12 + 1 by omega]
        exact this
      · rw [f_rd] at hs
        simp only [reduceIte, Nat.reduceEqDiff] at hs
        have := sp_5018 (X := X) (d := d + n + 12) hE hL hP (fun z hz s' o' I' P' X' h1 h2 h3 => (ih z).1 hz h1 h2 h3) (fun z hz x' s' o' I' P' X' h1 h2 h3 => (ih z).2 hz h1 h2 h3) (by omega) hs h
        rw [show d + (n + 1) + 12 = d + n + 12 + 1 by omega]
        exact this
def f_5001_J100  (l2 : Int32) (s : Sx) : Option Sx :=
  bT (f_4005 17 0 s) fun s1 r1 =>
  bS (f_5002 s1) fun s2 =>
  bOv (f_5023 s2) fun s3 =>
  some s3
def f_5001_L76  : Nat → Int32 → Sx → Option Sx
  | 0, _, _ => none
  | n + 1, l2, s =>
    if 300 ≤ l2 then
      f_5001_J100 l2 s
    else
      if (f_5003 s) = 0 then
        f_5001_J100 l2 s
      else
        bOv (f_rd 900 5008 0 s) fun s7 =>
        f_5001_L76 n (l2 + 1) s7
def f_5001  (s : Sx) : Option Sx :=
  bS (f_4001 s) fun s8 =>
  bS (sV s8 2 0) fun s9 =>
  bS (sV s9 3 (f_9002 s9)) fun s11 =>
  bS (sV s11 4 0) fun s12 =>
  bS (sV s12 5 0) fun s13 =>
  bS (sB s13 13 []) fun s14 =>
  bS (sB s14 15 []) fun s15 =>
  bS (sB s15 16 []) fun s16 =>
  bS (sB s16 17 []) fun s17 =>
  f_5001_L76 400 0 s17
theorem sp_5001 {d : Nat} {G : ab_G} {ad : Nat → Nat} {I : Nat → Nat → Int32} {s : Sx} {P : ab_Pq} {X : ab_Xq} (hE0 : EV G ad) (hP : Rep I ad s)   {o : Sx} (ho : f_5001 s = some o) (h : ∀ I1, Rep I1 ad o → FrE ad I I1 → P (gW (sR (sR G (ad 2) 0 (some (ad 0))) (ad 2) 1 (some (ad 1))) I1) none) : ab_Gam (d + 913) 5001 [.ref (ad 2), .ref (ad 0)] (gW G I) P X := by
  have h2 := h
  have hE1 : EV (sR G (ad 2) 0 (some (ad 0))) ad := EV_sR hE0 (by decide) (by decide)
  have hE : EV (sR (sR G (ad 2) 0 (some (ad 0))) (ad 2) 1 (some (ad 1))) ad := EV_sR hE1 (by decide) (by decide)
  have hL : LR (sR (sR G (ad 2) 0 (some (ad 0))) (ad 2) 1 (some (ad 1))) ad := by unfold LR; refine ⟨?_, ?_⟩ <;> simp [gR_sR, u2]
  have hF : FrE ad I I := FrE_rfl
  unfold f_5001 at ho
  refine ab_enter (I := i5001) rfl (Nat.le_of_ble_eq_true rfl) (fun R hR => ?_)
  have h5001_J100 : ∀ (l2 : Int32)  (s : Sx) (Ia : Nat → Nat → Int32) (bc bs : Nat) (hPa : Rep Ia ad s) (hFa : FrE ad I Ia) (ho : f_5001_J100 l2 s = some o), R 100 [some (.ref (ad 2)), some (.ref (ad 0)), some (.int l2)] [] (gW (sR (sR G (ad 2) 0 (some (ad 0))) (ad 2) 1 (some (ad 1))) Ia) bc bs := by
    intro l2  s Ia bc bs  hPa hFa ho
    unfold f_5001_J100 at ho
    refine us_aload_n hR dX4_read_100 rfl ?_
    refine us_getR hR dX4_read_101 fR_5_32 (ev_k2 hE) rfl hL.1 ?_
    refine us_bipushC hR dX4_read_104 (c := 17) (by decide) ?_
    refine us_iconstC hR dX4_read_106 (c := 0) (by decide) ?_
    refine us_callV hR dX4_read_107 (y := 4005) (by decide +kernel) (by decide) (J := i4005) rfl rfl rfl rfl (ev_k0 hE) rfl (Nat.le_of_ble_eq_true rfl) (Nat.zero_le _) (Nat.zero_le _) ?_
    refine sp_4005 hE hPa  (fun I1 q1 hs1 hP1 hF1 => ?_)
    rw [← hs1] at ho
    obtain ⟨s1, r1⟩ := q1
    rw [bT_eq] at ho
    have hF1 := hFa.tr hF1
    refine us_pop hR dX4_read_110 rfl ?_
    refine us_aload_n hR dX4_read_111 rfl ?_
    refine us_callV hR dX4_read_112 (y := 5002) (by decide +kernel) (by decide) (J := i5002) rfl rfl rfl rfl (ev_k2 hE) rfl (Nat.le_of_ble_eq_true rfl) (Nat.zero_le _) (Nat.zero_le _) ?_
    refine sp_5002 hE hL hP1  (fun I2 s2 hs2 hP2 hF2 => ?_)
    rw [← hs2, bS_eq] at ho
    have hF2 := hF1.tr hF2
    refine us_aload_n hR dX4_read_115 rfl ?_
    refine us_callV hR dX4_read_116 (y := 5023) (by decide +kernel) (by decide) (J := i5023) rfl rfl rfl rfl (ev_k2 hE) rfl (Nat.le_of_ble_eq_true rfl) (Nat.zero_le _) (Nat.zero_le _) ?_
    obtain ⟨s3, hs3⟩ := bOv_ex ho
    replace ho := bOv_go ho hs3
    refine sp_5023 hE hL hP2  hs3 (fun I3 hP3 hF3 => ?_)
    have hF3 := hF2.tr hF3
    refine us_vret hR dX4_read_119 rfl ?_
    cases ho
    exact h2 _ hP3 hF3
  have h5001_L76 : ∀ (n : Nat) (l2 : Int32)  (s : Sx) (Ia : Nat → Nat → Int32) (bc bs : Nat) (hPa : Rep Ia ad s) (hFa : FrE ad I Ia) (ho : f_5001_L76 n l2 s = some o), R 76 [some (.ref (ad 2)), some (.ref (ad 0)), some (.int l2)] [] (gW (sR (sR G (ad 2) 0 (some (ad 0))) (ad 2) 1 (some (ad 1))) Ia) bc bs := by
    intro n
    induction n with
    | zero => intro l2  s Ia bc bs  hPa hFa ho; exact absurd ho (by intro hc; cases hc)
    | succ n76 ih76 =>
      intro l2  s Ia bc bs  hPa hFa ho
      rw [f_5001_L76] at ho
      refine us_iload_n hR dX4_read_76 rfl ?_
      refine us_sipushC hR dX4_read_77 (c := 300) (by decide) ?_
      refine us_icmp_ge hR dX4_read_80 100 (by decide) (fun c4 => ?_) (fun c4 => ?_)
      · rw [if_pos c4] at ho
        exact h5001_J100 l2  s Ia _ _ hPa hFa ho
      · rw [if_neg c4] at ho
        refine us_aload_n hR dX4_read_83 rfl ?_
        refine us_callV hR dX4_read_84 (y := 5003) (by decide +kernel) (by decide) (J := i5003) rfl rfl rfl rfl (ev_k2 hE) rfl (Nat.le_of_ble_eq_true rfl) (Nat.zero_le _) (Nat.zero_le _) ?_
        refine sp_5003 hE hL hPa  ?_
        refine us_if_eq hR dX4_read_87 100 (by decide) (fun c6 => ?_) (fun c6 => ?_)
        · rw [if_pos c6] at ho
          exact h5001_J100 l2  s Ia _ _ hPa hFa ho
        · rw [if_neg c6] at ho
          refine us_aload_n hR dX4_read_90 rfl ?_
          refine us_callV hR dX4_read_91 (y := 5008) (by decide +kernel) (by decide) (J := i5008) rfl rfl rfl rfl (ev_k2 hE) rfl (Nat.le_of_ble_eq_true rfl) (Nat.zero_le _) (Nat.zero_le _) ?_
          obtain ⟨s7, hs7⟩ := bOv_ex ho
          replace ho := bOv_go ho hs7
          refine ((sp_rd hE hL 900 5008).1 (by decide)) hPa hs7 (fun I7 hP7 hF7 => ?_)
          have hF7 := hFa.tr hF7
          refine us_iincC hR dX4_read_94 rfl (Nat.le_of_ble_eq_true rfl) (c := 1) (by decide) ?_
          refine us_goto hR dX4_read_97 76 (by decide) ?_
          exact ih76 (l2 + 1)  s7 I7 _ _ hP7 hF7 ho
  refine us_aload_n hR dX4_read_0 rfl ?_
  refine us_aload_n hR dX4_read_1 rfl ?_
  refine us_putR hR dX4_read_2 fR_5_32 (Or.inl rfl) (ev_k2 hE0) rfl ?_
  show R _ _ _ (gW (sR G (ad 2) 0 (some (ad 0))) I) _ _
  refine us_aload_n hR dX4_read_5 rfl ?_
  refine us_aload_n hR dX4_read_6 rfl ?_
  refine us_getR hR dX4_read_7 fR_5_36 (ev_k0 hE1) rfl (ev_r_0_0 hE1) ?_
  refine us_putR hR dX4_read_10 fR_5_42 (Or.inl rfl) (ev_k2 hE1) rfl ?_
  show R _ _ _ (gW (sR (sR G (ad 2) 0 (some (ad 0))) (ad 2) 1 (some (ad 1))) I) _ _
  refine us_aload_n hR dX4_read_13 rfl ?_
  refine us_getR hR dX4_read_14 fR_5_32 (ev_k2 hE) rfl hL.1 ?_
  refine us_callV hR dX4_read_17 (y := 4001) (by decide +kernel) (by decide) (J := i4001) rfl rfl rfl rfl (ev_k0 hE) rfl (Nat.le_of_ble_eq_true rfl) (Nat.zero_le _) (Nat.zero_le _) ?_
  refine sp_4001 hE hP  (fun I8 s8 hs8 hP8 hF8 => ?_)
  rw [← hs8, bS_eq] at ho
  have hF8 := hF.tr hF8
  refine us_aload_n hR dX4_read_20 rfl ?_
  refine us_iconstC hR dX4_read_21 (c := 0) (by decide) ?_
  refine us_putIx hE hP8 2 (by decide) hR dX4_read_22 fR_5_46 (Or.inl rfl) (ev_k2 hE) rfl rfl (fun I9 s9 hs9 hP9 hF9 => ?_)
  rw [← hs9, bS_eq] at ho
  have hF9 := hF8.tr hF9
  refine us_aload_n hR dX4_read_25 rfl ?_
  refine us_aload_n hR dX4_read_26 rfl ?_
  refine us_getR hR dX4_read_27 fR_5_42 (ev_k2 hE) rfl hL.2 ?_
  refine us_callV hR dX4_read_30 (y := 9002) (by decide +kernel) (by decide) (J := i9002) rfl rfl rfl rfl (ev_k1 hE) rfl (Nat.le_of_ble_eq_true rfl) (Nat.zero_le _) (Nat.zero_le _) ?_
  refine sp_9002 hE hP9  ?_
  refine us_putIx hE hP9 3 (by decide) hR dX4_read_33 fR_5_56 (Or.inl rfl) (ev_k2 hE) rfl rfl (fun I11 s11 hs11 hP11 hF11 => ?_)
  rw [← hs11, bS_eq] at ho
  have hF11 := hF9.tr hF11
  refine us_aload_n hR dX4_read_36 rfl ?_
  refine us_iconstC hR dX4_read_37 (c := 0) (by decide) ?_
  refine us_putIx hE hP11 4 (by decide) hR dX4_read_38 fR_5_59 (Or.inl rfl) (ev_k2 hE) rfl rfl (fun I12 s12 hs12 hP12 hF12 => ?_)
  rw [← hs12, bS_eq] at ho
  have hF12 := hF11.tr hF12
  refine us_aload_n hR dX4_read_41 rfl ?_
  refine us_iconstC hR dX4_read_42 (c := 0) (by decide) ?_
  refine us_putIx hE hP12 5 (by decide) hR dX4_read_43 fR_5_62 (Or.inl rfl) (ev_k2 hE) rfl rfl (fun I13 s13 hs13 hP13 hF13 => ?_)
  rw [← hs13, bS_eq] at ho
  have hF13 := hF12.tr hF13
  refine us_aload_n hR dX4_read_46 rfl ?_
  refine us_getR hR dX4_read_47 fR_5_14 (ev_k2 hE) rfl (ev_r_2_6 hE) ?_
  refine us_callV hR dX4_read_50 (y := 6008) (by decide +kernel) (by decide) (J := i6008) rfl rfl rfl rfl (ev_rk hE (by decide)) rfl (Nat.le_of_ble_eq_true rfl) (Nat.zero_le _) (Nat.zero_le _) ?_
  refine cR_empty hE hP13 13 (by decide) (fun I14 s14 hs14 hP14 hF14 => ?_)
  rw [← hs14, bS_eq] at ho
  have hF14 := hF13.tr hF14
  refine us_aload_n hR dX4_read_53 rfl ?_
  refine us_getR hR dX4_read_54 fR_5_23 (ev_k2 hE) rfl (ev_r_2_8 hE) ?_
  refine us_callV hR dX4_read_57 (y := 6008) (by decide +kernel) (by decide) (J := i6008) rfl rfl rfl rfl (ev_rk hE (by decide)) rfl (Nat.le_of_ble_eq_true rfl) (Nat.zero_le _) (Nat.zero_le _) ?_
  refine cR_empty hE hP14 15 (by decide) (fun I15 s15 hs15 hP15 hF15 => ?_)
  rw [← hs15, bS_eq] at ho
  have hF15 := hF14.tr hF15
  refine us_aload_n hR dX4_read_60 rfl ?_
  refine us_getR hR dX4_read_61 fR_5_26 (ev_k2 hE) rfl (ev_r_2_9 hE) ?_
  refine us_callV hR dX4_read_64 (y := 6008) (by decide +kernel) (by decide) (J := i6008) rfl rfl rfl rfl (ev_rk hE (by decide)) rfl (Nat.le_of_ble_eq_true rfl) (Nat.zero_le _) (Nat.zero_le _) ?_
  refine cR_empty hE hP15 16 (by decide) (fun I16 s16 hs16 hP16 hF16 => ?_)
  rw [← hs16, bS_eq] at ho
  have hF16 := hF15.tr hF16
  refine us_aload_n hR dX4_read_67 rfl ?_
  refine us_getR hR dX4_read_68 fR_5_29 (ev_k2 hE) rfl (ev_r_2_10 hE) ?_
  refine us_callV hR dX4_read_71 (y := 6008) (by decide +kernel) (by decide) (J := i6008) rfl rfl rfl rfl (ev_rk hE (by decide)) rfl (Nat.le_of_ble_eq_true rfl) (Nat.zero_le _) (Nat.zero_le _) ?_
  refine cR_empty hE hP16 17 (by decide) (fun I17 s17 hs17 hP17 hF17 => ?_)
  rw [← hs17, bS_eq] at ho
  have hF17 := hF16.tr hF17
  refine us_iconstC hR dX4_read_74 (c := 0) (by decide) ?_
  refine us_istore_n hR dX4_read_75 (Nat.le_of_ble_eq_true rfl) ?_
  exact h5001_L76 _ 0  s17 I17 _ _ hP17 hF17 ho
