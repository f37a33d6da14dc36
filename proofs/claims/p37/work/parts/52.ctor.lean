/-! shadows over the plain heap: exceptions (1 IllegalArgument, 2 IndexOutOfBounds, 3 IllegalState) -/
def exn (e : Nat) : String := match e with
  | 1 => "java/lang/IllegalArgumentException"
  | 2 => "java/lang/IndexOutOfBoundsException"
  | _ => "java/lang/IllegalStateException"
def bXs {α β : Type} (x : Option (Tx × (Nat ⊕ α))) (k : Tx → α → Option (Tx × (Nat ⊕ β))) : Option (Tx × (Nat ⊕ β)) := match x with
  | none => none
  | some (T, .inl e) => some (T, .inl e)
  | some (T, .inr v) => k T v
def bXp {α β : Type} (T : Tx) (x : Option (Nat ⊕ α)) (k : α → Option (Tx × (Nat ⊕ β))) : Option (Tx × (Nat ⊕ β)) := match x with
  | none => none
  | some (.inl e) => some (T, .inl e)
  | some (.inr v) => k v
def bXn {α β : Type} (x : Option (Nat ⊕ α)) (k : α → Option (Nat ⊕ β)) : Option (Nat ⊕ β) := match x with
  | none => none
  | some (.inl e) => some (.inl e)
  | some (.inr v) => k v
def bN {β : Type} (x : Option Nat) (y : β) (k : Nat → β) : β := match x with
  | none => y
  | some a => k a
theorem bN_none {β : Type} (y : β) (k : Nat → β) : bN none y k = y := rfl
theorem bN_some {β : Type} (a : Nat) (y : β) (k : Nat → β) : bN (some a) y k = k a := rfl
theorem bXs_ex {α β : Type} {x : Option (Tx × (Nat ⊕ α))} {k : Tx → α → Option (Tx × (Nat ⊕ β))} {r : Tx × (Nat ⊕ β)} (h : bXs x k = some r) : ∃ a, x = some a := by
  cases x with
  | none => cases h
  | some a => exact ⟨a, rfl⟩
theorem bXp_ex {α β : Type} {T : Tx} {x : Option (Nat ⊕ α)} {k : α → Option (Tx × (Nat ⊕ β))} {r : Tx × (Nat ⊕ β)} (h : bXp T x k = some r) : ∃ a, x = some a := by
  cases x with
  | none => cases h
  | some a => exact ⟨a, rfl⟩
theorem bXn_ex {α β : Type} {x : Option (Nat ⊕ α)} {k : α → Option (Nat ⊕ β)} {r : Nat ⊕ β} (h : bXn x k = some r) : ∃ a, x = some a := by
  cases x with
  | none => cases h
  | some a => exact ⟨a, rfl⟩
theorem bXs_some {α β : Type} (T : Tx) (v : α) (k : Tx → α → Option (Tx × (Nat ⊕ β))) : bXs (some (T, .inr v)) k = k T v := rfl
theorem bXp_some {α β : Type} (T : Tx) (v : α) (k : α → Option (Tx × (Nat ⊕ β))) : bXp T (some (.inr v)) k = k v := rfl
theorem bXn_some {α β : Type} (v : α) (k : α → Option (Nat ⊕ β)) : bXn (some (.inr v)) k = k v := rfl
theorem H_kind1 {F : Nat → Prop} {G : ab_G} {T : Tx} {a ci : Nat} (h : Rep2 F G T) (hk : tK T a = ci + 1) (hob : H_obj (ci + 1)) : gK G a = ci := by
  have := ((h.2.2.2.1 a).1 (by rw [hk]; exact hob)).1
  omega
theorem H_row6 {F : Nat → Prop} {G : ab_G} {T : Tx} {a : Nat} (h : Rep2 F G T) (hk : tK T a = 7) : gK G a = 6 := by
  obtain ⟨b, hb, _⟩ := (h.2.2.2.1 a).2.1 hk
  exact hb.1
theorem H_raw7 {F : Nat → Prop} {G : ab_G} {T : Tx} {a : Nat} (h : Rep2 F G T) (hk : tK T a = 107) : gK G a = 6 := ((h.2.2.2.1 a).2.2.2.1 hk).1
theorem H_raw1 {F : Nat → Prop} {G : ab_G} {T : Tx} {a : Nat} (h : Rep2 F G T) (hk : tK T a = 101) : gK G a = 0 := ((h.2.2.2.1 a).2.2.2.2 hk).1
theorem H_lst0 {F : Nat → Prop} {G : ab_G} {T : Tx} {a : Nat} (h : Rep2 F G T) (hk : tK T a = 1) : gK G a = 0 := ((h.2.2.2.1 a).2.2.1 hk).1.1

def h_9000 (me : Nat) (T : Tx) : Option Tx :=
  bS (tNew T 107) fun T1 =>
  gd (tK T1 (tZ T) = 107) <|
  bS (tRow T1 (tZ T) (Int32.toNatClampNeg 301)) fun T2 =>
  gd (tK T2 me = 10) <|
  bS (tsW T2 me 0 (some (tZ T))) fun T3 =>
  bS (tNew T3 107) fun T4 =>
  gd (tK T4 (tZ T3) = 107) <|
  bS (tRow T4 (tZ T3) (Int32.toNatClampNeg 301)) fun T5 =>
  gd (tK T5 me = 10) <|
  bS (tsW T5 me 1 (some (tZ T3))) fun T6 =>
  bS (tNew T6 107) fun T7 =>
  gd (tK T7 (tZ T6) = 107) <|
  bS (tRow T7 (tZ T6) (Int32.toNatClampNeg 301)) fun T8 =>
  gd (tK T8 me = 10) <|
  bS (tsW T8 me 2 (some (tZ T6))) fun T9 =>
  bS (tNew T9 107) fun T10 =>
  gd (tK T10 (tZ T9) = 107) <|
  bS (tRow T10 (tZ T9) (Int32.toNatClampNeg 300)) fun T11 =>
  gd (tK T11 me = 10) <|
  bS (tsW T11 me 3 (some (tZ T9))) fun T12 =>
  bS (tNew T12 107) fun T13 =>
  gd (tK T13 (tZ T12) = 107) <|
  bS (tRow T13 (tZ T12) (Int32.toNatClampNeg 300)) fun T14 =>
  gd (tK T14 me = 10) <|
  bS (tsW T14 me 4 (some (tZ T12))) fun T15 =>
  some T15
theorem sh_9000 {F : Nat → Prop} {d : Nat} {G : ab_G} {T : Tx} {P : ab_Pq} {X : ab_Xq} (h2 : Rep2 F G T) {me : Nat} {o : Tx} (ho : h_9000 me T = some o) (h : ∀ G1, Rep2 F G1 o → SameF F G G1 → P G1 none) : ab_Gam (d + 2) 9000 [.ref me] G P X := by
  have hF : SameF F G G := SameF_rfl
  unfold h_9000 at ho
  refine ab_enter (I := i9000) rfl (Nat.le_of_ble_eq_true rfl) (fun R hR => ?_)
  change R _ _ _ _ 10 1600
  refine us_aload_n hR dX8_init_0 rfl ?_
  refine us_objInit hR dX8_init_1 (by decide +kernel) (Nat.le_of_ble_eq_true rfl) ?_
  refine us_aload_n hR dX8_init_4 rfl ?_
  refine uh_new (ci := 6) 107 h2 (by decide) hR dX8_init_5 (by decide +kernel) (by decide) (Nat.le_of_ble_eq_true rfl) (Nat.le_of_ble_eq_true rfl) (fun G1 T1 hs1 h21 hF1 => ?_)
  rw [← hs1, bS_eq] at ho
  have hF1 := hF.tr hF1
  change R _ _ _ _ 9 1598
  refine us_dup hR dX8_init_8 rfl ?_
  refine us_sipushC hR dX8_init_9 (c := 301) (by decide) ?_
  have hg := gd_c ho
  rw [gd_e hg] at ho
  refine us_callI hR dX8_init_12 (y := 6000) (by decide +kernel) (by decide) (J := i6000) rfl rfl rfl rfl (H_raw7 h21 hg) rfl (Nat.le_of_ble_eq_true rfl) (Nat.le_of_ble_eq_true rfl) (Nat.le_of_ble_eq_true rfl) ?_
  refine hr_init h21 hg (by decide) (fun G2 T2 hs2 h22 hF2 => ?_)
  rw [← hs2, bS_eq] at ho
  have hF2 := hF1.tr hF2
  change R _ _ _ _ 8 1297
  have hg := gd_c ho
  rw [gd_e hg] at ho
  refine uh_putR h22 hg (by decide) hR dX8_init_15 fR_9_14 (Or.inr ⟨rfl, rfl⟩) rfl (fun G3 T3 hs3 h23 hF3 => ?_)
  rw [← hs3, bS_eq] at ho
  have hF3 := hF2.tr hF3
  refine us_aload_n hR dX8_init_18 rfl ?_
  refine uh_new (ci := 6) 107 h23 (by decide) hR dX8_init_19 (by decide +kernel) (by decide) (Nat.le_of_ble_eq_true rfl) (Nat.le_of_ble_eq_true rfl) (fun G4 T4 hs4 h24 hF4 => ?_)
  rw [← hs4, bS_eq] at ho
  have hF4 := hF3.tr hF4
  change R _ _ _ _ 7 1295
  refine us_dup hR dX8_init_22 rfl ?_
  refine us_sipushC hR dX8_init_23 (c := 301) (by decide) ?_
  have hg := gd_c ho
  rw [gd_e hg] at ho
  refine us_callI hR dX8_init_26 (y := 6000) (by decide +kernel) (by decide) (J := i6000) rfl rfl rfl rfl (H_raw7 h24 hg) rfl (Nat.le_of_ble_eq_true rfl) (Nat.le_of_ble_eq_true rfl) (Nat.le_of_ble_eq_true rfl) ?_
  refine hr_init h24 hg (by decide) (fun G5 T5 hs5 h25 hF5 => ?_)
  rw [← hs5, bS_eq] at ho
  have hF5 := hF4.tr hF5
  change R _ _ _ _ 6 994
  have hg := gd_c ho
  rw [gd_e hg] at ho
  refine uh_putR h25 hg (by decide) hR dX8_init_29 fR_9_20 (Or.inr ⟨rfl, rfl⟩) rfl (fun G6 T6 hs6 h26 hF6 => ?_)
  rw [← hs6, bS_eq] at ho
  have hF6 := hF5.tr hF6
  refine us_aload_n hR dX8_init_32 rfl ?_
  refine uh_new (ci := 6) 107 h26 (by decide) hR dX8_init_33 (by decide +kernel) (by decide) (Nat.le_of_ble_eq_true rfl) (Nat.le_of_ble_eq_true rfl) (fun G7 T7 hs7 h27 hF7 => ?_)
  rw [← hs7, bS_eq] at ho
  have hF7 := hF6.tr hF7
  change R _ _ _ _ 5 992
  refine us_dup hR dX8_init_36 rfl ?_
  refine us_sipushC hR dX8_init_37 (c := 301) (by decide) ?_
  have hg := gd_c ho
  rw [gd_e hg] at ho
  refine us_callI hR dX8_init_40 (y := 6000) (by decide +kernel) (by decide) (J := i6000) rfl rfl rfl rfl (H_raw7 h27 hg) rfl (Nat.le_of_ble_eq_true rfl) (Nat.le_of_ble_eq_true rfl) (Nat.le_of_ble_eq_true rfl) ?_
  refine hr_init h27 hg (by decide) (fun G8 T8 hs8 h28 hF8 => ?_)
  rw [← hs8, bS_eq] at ho
  have hF8 := hF7.tr hF8
  change R _ _ _ _ 4 691
  have hg := gd_c ho
  rw [gd_e hg] at ho
  refine uh_putR h28 hg (by decide) hR dX8_init_43 fR_9_23 (Or.inr ⟨rfl, rfl⟩) rfl (fun G9 T9 hs9 h29 hF9 => ?_)
  rw [← hs9, bS_eq] at ho
  have hF9 := hF8.tr hF9
  refine us_aload_n hR dX8_init_46 rfl ?_
  refine uh_new (ci := 6) 107 h29 (by decide) hR dX8_init_47 (by decide +kernel) (by decide) (Nat.le_of_ble_eq_true rfl) (Nat.le_of_ble_eq_true rfl) (fun G10 T10 hs10 h210 hF10 => ?_)
  rw [← hs10, bS_eq] at ho
  have hF10 := hF9.tr hF10
  change R _ _ _ _ 3 689
  refine us_dup hR dX8_init_50 rfl ?_
  refine us_sipushC hR dX8_init_51 (c := 300) (by decide) ?_
  have hg := gd_c ho
  rw [gd_e hg] at ho
  refine us_callI hR dX8_init_54 (y := 6000) (by decide +kernel) (by decide) (J := i6000) rfl rfl rfl rfl (H_raw7 h210 hg) rfl (Nat.le_of_ble_eq_true rfl) (Nat.le_of_ble_eq_true rfl) (Nat.le_of_ble_eq_true rfl) ?_
  refine hr_init h210 hg (by decide) (fun G11 T11 hs11 h211 hF11 => ?_)
  rw [← hs11, bS_eq] at ho
  have hF11 := hF10.tr hF11
  change R _ _ _ _ 2 389
  have hg := gd_c ho
  rw [gd_e hg] at ho
  refine uh_putR h211 hg (by decide) hR dX8_init_57 fR_9_26 (Or.inr ⟨rfl, rfl⟩) rfl (fun G12 T12 hs12 h212 hF12 => ?_)
  rw [← hs12, bS_eq] at ho
  have hF12 := hF11.tr hF12
  refine us_aload_n hR dX8_init_60 rfl ?_
  refine uh_new (ci := 6) 107 h212 (by decide) hR dX8_init_61 (by decide +kernel) (by decide) (Nat.le_of_ble_eq_true rfl) (Nat.le_of_ble_eq_true rfl) (fun G13 T13 hs13 h213 hF13 => ?_)
  rw [← hs13, bS_eq] at ho
  have hF13 := hF12.tr hF13
  change R _ _ _ _ 1 387
  refine us_dup hR dX8_init_64 rfl ?_
  refine us_sipushC hR dX8_init_65 (c := 300) (by decide) ?_
  have hg := gd_c ho
  rw [gd_e hg] at ho
  refine us_callI hR dX8_init_68 (y := 6000) (by decide +kernel) (by decide) (J := i6000) rfl rfl rfl rfl (H_raw7 h213 hg) rfl (Nat.le_of_ble_eq_true rfl) (Nat.le_of_ble_eq_true rfl) (Nat.le_of_ble_eq_true rfl) ?_
  refine hr_init h213 hg (by decide) (fun G14 T14 hs14 h214 hF14 => ?_)
  rw [← hs14, bS_eq] at ho
  have hF14 := hF13.tr hF14
  change R _ _ _ _ 0 87
  have hg := gd_c ho
  rw [gd_e hg] at ho
  refine uh_putR h214 hg (by decide) hR dX8_init_71 fR_9_29 (Or.inr ⟨rfl, rfl⟩) rfl (fun G15 T15 hs15 h215 hF15 => ?_)
  rw [← hs15, bS_eq] at ho
  have hF15 := hF14.tr hF15
  refine us_vret hR dX8_init_74 rfl ?_
  cases ho
  exact h _ h215 hF15
def h_4000 (me : Nat) (T : Tx) : Option Tx :=
  bS (tNew T 10) fun T1 =>
  gd (tK T1 (tZ T) = 10) <|
  bOv (h_9000 (tZ T) T1) fun T2 =>
  gd (tK T2 me = 5) <|
  bS (tsW T2 me 0 (some (tZ T))) fun T3 =>
  bS (tNew T3 107) fun T4 =>
  gd (tK T4 (tZ T3) = 107) <|
  bS (tRow T4 (tZ T3) (Int32.toNatClampNeg 150)) fun T5 =>
  gd (tK T5 me = 5) <|
  bS (tsW T5 me 1 (some (tZ T3))) fun T6 =>
  bS (tNew T6 107) fun T7 =>
  gd (tK T7 (tZ T6) = 107) <|
  bS (tRow T7 (tZ T6) (Int32.toNatClampNeg 150)) fun T8 =>
  gd (tK T8 me = 5) <|
  bS (tsW T8 me 2 (some (tZ T6))) fun T9 =>
  bS (tNew T9 107) fun T10 =>
  gd (tK T10 (tZ T9) = 107) <|
  bS (tRow T10 (tZ T9) (Int32.toNatClampNeg 600)) fun T11 =>
  gd (tK T11 me = 5) <|
  bS (tsW T11 me 3 (some (tZ T9))) fun T12 =>
  bS (tNew T12 107) fun T13 =>
  gd (tK T13 (tZ T12) = 107) <|
  bS (tRow T13 (tZ T12) (Int32.toNatClampNeg 600)) fun T14 =>
  gd (tK T14 me = 5) <|
  bS (tsW T14 me 4 (some (tZ T12))) fun T15 =>
  bS (tNew T15 107) fun T16 =>
  gd (tK T16 (tZ T15) = 107) <|
  bS (tRow T16 (tZ T15) (Int32.toNatClampNeg 75)) fun T17 =>
  gd (tK T17 me = 5) <|
  bS (tsW T17 me 5 (some (tZ T15))) fun T18 =>
  bS (tNew T18 107) fun T19 =>
  gd (tK T19 (tZ T18) = 107) <|
  bS (tRow T19 (tZ T18) (Int32.toNatClampNeg 75)) fun T20 =>
  gd (tK T20 me = 5) <|
  bS (tsW T20 me 6 (some (tZ T18))) fun T21 =>
  bS (tNew T21 107) fun T22 =>
  gd (tK T22 (tZ T21) = 107) <|
  bS (tRow T22 (tZ T21) (Int32.toNatClampNeg 75)) fun T23 =>
  gd (tK T23 me = 5) <|
  bS (tsW T23 me 7 (some (tZ T21))) fun T24 =>
  bS (tNew T24 107) fun T25 =>
  gd (tK T25 (tZ T24) = 107) <|
  bS (tRow T25 (tZ T24) (Int32.toNatClampNeg 75)) fun T26 =>
  gd (tK T26 me = 5) <|
  bS (tsW T26 me 8 (some (tZ T24))) fun T27 =>
  gd (tK T27 me = 5) <|
  bS (tsV T27 me 9 0) fun T28 =>
  some T28
theorem sh_4000 {F : Nat → Prop} {d : Nat} {G : ab_G} {T : Tx} {P : ab_Pq} {X : ab_Xq} (h2 : Rep2 F G T) {me : Nat} {o : Tx} (ho : h_4000 me T = some o) (h : ∀ G1, Rep2 F G1 o → SameF F G G1 → P G1 none) : ab_Gam (d + 3) 4000 [.ref me] G P X := by
  have hF : SameF F G G := SameF_rfl
  unfold h_4000 at ho
  refine ab_enter (I := i4000) rfl (Nat.le_of_ble_eq_true rfl) (fun R hR => ?_)
  change R _ _ _ _ 30 3500
  refine us_aload_n hR dX3_init_0 rfl ?_
  refine us_objInit hR dX3_init_1 (by decide +kernel) (Nat.le_of_ble_eq_true rfl) ?_
  refine us_aload_n hR dX3_init_4 rfl ?_
  refine uh_new (ci := 9) 10 h2 (by decide) hR dX3_init_5 (by decide +kernel) (by decide) (Nat.le_of_ble_eq_true rfl) (Nat.le_of_ble_eq_true rfl) (fun G1 T1 hs1 h21 hF1 => ?_)
  rw [← hs1, bS_eq] at ho
  have hF1 := hF.tr hF1
  change R _ _ _ _ 29 3495
  refine us_dup hR dX3_init_8 rfl ?_
  have hg := gd_c ho
  rw [gd_e hg] at ho
  refine us_callN hR dX3_init_9 (y := 9000) (by decide +kernel) (by decide +kernel) (J := i9000) rfl rfl rfl rfl (H_kind1 h21 hg (by decide)) rfl (Nat.le_of_ble_eq_true rfl) (Nat.le_of_ble_eq_true rfl) (Nat.le_of_ble_eq_true rfl) ?_
  obtain ⟨T2, hs2⟩ := bOv_ex ho
  replace ho := bOv_go ho hs2
  refine sh_9000 h21 hs2 (fun G2 h22 hF2 => ?_)
  have hF2 := hF1.tr hF2
  change R _ _ _ _ 19 1895
  have hg := gd_c ho
  rw [gd_e hg] at ho
  refine uh_putR h22 hg (by decide) hR dX3_init_12 fR_4_12 (Or.inr ⟨rfl, rfl⟩) rfl (fun G3 T3 hs3 h23 hF3 => ?_)
  rw [← hs3, bS_eq] at ho
  have hF3 := hF2.tr hF3
  refine us_aload_n hR dX3_init_15 rfl ?_
  refine uh_new (ci := 6) 107 h23 (by decide) hR dX3_init_16 (by decide +kernel) (by decide) (Nat.le_of_ble_eq_true rfl) (Nat.le_of_ble_eq_true rfl) (fun G4 T4 hs4 h24 hF4 => ?_)
  rw [← hs4, bS_eq] at ho
  have hF4 := hF3.tr hF4
  change R _ _ _ _ 18 1893
  refine us_dup hR dX3_init_19 rfl ?_
  refine us_sipushC hR dX3_init_20 (c := 150) (by decide) ?_
  have hg := gd_c ho
  rw [gd_e hg] at ho
  refine us_callI hR dX3_init_23 (y := 6000) (by decide +kernel) (by decide) (J := i6000) rfl rfl rfl rfl (H_raw7 h24 hg) rfl (Nat.le_of_ble_eq_true rfl) (Nat.le_of_ble_eq_true rfl) (Nat.le_of_ble_eq_true rfl) ?_
  refine hr_init h24 hg (by decide) (fun G5 T5 hs5 h25 hF5 => ?_)
  rw [← hs5, bS_eq] at ho
  have hF5 := hF4.tr hF5
  change R _ _ _ _ 17 1743
  have hg := gd_c ho
  rw [gd_e hg] at ho
  refine uh_putR h25 hg (by decide) hR dX3_init_26 fR_4_23 (Or.inr ⟨rfl, rfl⟩) rfl (fun G6 T6 hs6 h26 hF6 => ?_)
  rw [← hs6, bS_eq] at ho
  have hF6 := hF5.tr hF6
  refine us_aload_n hR dX3_init_29 rfl ?_
  refine uh_new (ci := 6) 107 h26 (by decide) hR dX3_init_30 (by decide +kernel) (by decide) (Nat.le_of_ble_eq_true rfl) (Nat.le_of_ble_eq_true rfl) (fun G7 T7 hs7 h27 hF7 => ?_)
  rw [← hs7, bS_eq] at ho
  have hF7 := hF6.tr hF7
  change R _ _ _ _ 16 1741
  refine us_dup hR dX3_init_33 rfl ?_
  refine us_sipushC hR dX3_init_34 (c := 150) (by decide) ?_
  have hg := gd_c ho
  rw [gd_e hg] at ho
  refine us_callI hR dX3_init_37 (y := 6000) (by decide +kernel) (by decide) (J := i6000) rfl rfl rfl rfl (H_raw7 h27 hg) rfl (Nat.le_of_ble_eq_true rfl) (Nat.le_of_ble_eq_true rfl) (Nat.le_of_ble_eq_true rfl) ?_
  refine hr_init h27 hg (by decide) (fun G8 T8 hs8 h28 hF8 => ?_)
  rw [← hs8, bS_eq] at ho
  have hF8 := hF7.tr hF8
  change R _ _ _ _ 15 1591
  have hg := gd_c ho
  rw [gd_e hg] at ho
  refine uh_putR h28 hg (by decide) hR dX3_init_40 fR_4_27 (Or.inr ⟨rfl, rfl⟩) rfl (fun G9 T9 hs9 h29 hF9 => ?_)
  rw [← hs9, bS_eq] at ho
  have hF9 := hF8.tr hF9
  refine us_aload_n hR dX3_init_43 rfl ?_
  refine uh_new (ci := 6) 107 h29 (by decide) hR dX3_init_44 (by decide +kernel) (by decide) (Nat.le_of_ble_eq_true rfl) (Nat.le_of_ble_eq_true rfl) (fun G10 T10 hs10 h210 hF10 => ?_)
  rw [← hs10, bS_eq] at ho
  have hF10 := hF9.tr hF10
  change R _ _ _ _ 14 1589
  refine us_dup hR dX3_init_47 rfl ?_
  refine us_sipushC hR dX3_init_48 (c := 600) (by decide) ?_
  have hg := gd_c ho
  rw [gd_e hg] at ho
  refine us_callI hR dX3_init_51 (y := 6000) (by decide +kernel) (by decide) (J := i6000) rfl rfl rfl rfl (H_raw7 h210 hg) rfl (Nat.le_of_ble_eq_true rfl) (Nat.le_of_ble_eq_true rfl) (Nat.le_of_ble_eq_true rfl) ?_
  refine hr_init h210 hg (by decide) (fun G11 T11 hs11 h211 hF11 => ?_)
  rw [← hs11, bS_eq] at ho
  have hF11 := hF10.tr hF11
  change R _ _ _ _ 13 989
  have hg := gd_c ho
  rw [gd_e hg] at ho
  refine uh_putR h211 hg (by decide) hR dX3_init_54 fR_4_30 (Or.inr ⟨rfl, rfl⟩) rfl (fun G12 T12 hs12 h212 hF12 => ?_)
  rw [← hs12, bS_eq] at ho
  have hF12 := hF11.tr hF12
  refine us_aload_n hR dX3_init_57 rfl ?_
  refine uh_new (ci := 6) 107 h212 (by decide) hR dX3_init_58 (by decide +kernel) (by decide) (Nat.le_of_ble_eq_true rfl) (Nat.le_of_ble_eq_true rfl) (fun G13 T13 hs13 h213 hF13 => ?_)
  rw [← hs13, bS_eq] at ho
  have hF13 := hF12.tr hF13
  change R _ _ _ _ 12 987
  refine us_dup hR dX3_init_61 rfl ?_
  refine us_sipushC hR dX3_init_62 (c := 600) (by decide) ?_
  have hg := gd_c ho
  rw [gd_e hg] at ho
  refine us_callI hR dX3_init_65 (y := 6000) (by decide +kernel) (by decide) (J := i6000) rfl rfl rfl rfl (H_raw7 h213 hg) rfl (Nat.le_of_ble_eq_true rfl) (Nat.le_of_ble_eq_true rfl) (Nat.le_of_ble_eq_true rfl) ?_
  refine hr_init h213 hg (by decide) (fun G14 T14 hs14 h214 hF14 => ?_)
  rw [← hs14, bS_eq] at ho
  have hF14 := hF13.tr hF14
  change R _ _ _ _ 11 387
  have hg := gd_c ho
  rw [gd_e hg] at ho
  refine uh_putR h214 hg (by decide) hR dX3_init_68 fR_4_33 (Or.inr ⟨rfl, rfl⟩) rfl (fun G15 T15 hs15 h215 hF15 => ?_)
  rw [← hs15, bS_eq] at ho
  have hF15 := hF14.tr hF15
  refine us_aload_n hR dX3_init_71 rfl ?_
  refine uh_new (ci := 6) 107 h215 (by decide) hR dX3_init_72 (by decide +kernel) (by decide) (Nat.le_of_ble_eq_true rfl) (Nat.le_of_ble_eq_true rfl) (fun G16 T16 hs16 h216 hF16 => ?_)
  rw [← hs16, bS_eq] at ho
  have hF16 := hF15.tr hF16
  change R _ _ _ _ 10 385
  refine us_dup hR dX3_init_75 rfl ?_
  refine us_bipushC hR dX3_init_76 (c := 75) (by decide) ?_
  have hg := gd_c ho
  rw [gd_e hg] at ho
  refine us_callI hR dX3_init_78 (y := 6000) (by decide +kernel) (by decide) (J := i6000) rfl rfl rfl rfl (H_raw7 h216 hg) rfl (Nat.le_of_ble_eq_true rfl) (Nat.le_of_ble_eq_true rfl) (Nat.le_of_ble_eq_true rfl) ?_
  refine hr_init h216 hg (by decide) (fun G17 T17 hs17 h217 hF17 => ?_)
  rw [← hs17, bS_eq] at ho
  have hF17 := hF16.tr hF17
  change R _ _ _ _ 9 310
  have hg := gd_c ho
  rw [gd_e hg] at ho
  refine uh_putR h217 hg (by decide) hR dX3_init_81 fR_4_36 (Or.inr ⟨rfl, rfl⟩) rfl (fun G18 T18 hs18 h218 hF18 => ?_)
  rw [← hs18, bS_eq] at ho
  have hF18 := hF17.tr hF18
  refine us_aload_n hR dX3_init_84 rfl ?_
  refine uh_new (ci := 6) 107 h218 (by decide) hR dX3_init_85 (by decide +kernel) (by decide) (Nat.le_of_ble_eq_true rfl) (Nat.le_of_ble_eq_true rfl) (fun G19 T19 hs19 h219 hF19 => ?_)
  rw [← hs19, bS_eq] at ho
  have hF19 := hF18.tr hF19
  change R _ _ _ _ 8 308
  refine us_dup hR dX3_init_88 rfl ?_
  refine us_bipushC hR dX3_init_89 (c := 75) (by decide) ?_
  have hg := gd_c ho
  rw [gd_e hg] at ho
  refine us_callI hR dX3_init_91 (y := 6000) (by decide +kernel) (by decide) (J := i6000) rfl rfl rfl rfl (H_raw7 h219 hg) rfl (Nat.le_of_ble_eq_true rfl) (Nat.le_of_ble_eq_true rfl) (Nat.le_of_ble_eq_true rfl) ?_
  refine hr_init h219 hg (by decide) (fun G20 T20 hs20 h220 hF20 => ?_)
  rw [← hs20, bS_eq] at ho
  have hF20 := hF19.tr hF20
  change R _ _ _ _ 7 233
  have hg := gd_c ho
  rw [gd_e hg] at ho
  refine uh_putR h220 hg (by decide) hR dX3_init_94 fR_4_39 (Or.inr ⟨rfl, rfl⟩) rfl (fun G21 T21 hs21 h221 hF21 => ?_)
  rw [← hs21, bS_eq] at ho
  have hF21 := hF20.tr hF21
  refine us_aload_n hR dX3_init_97 rfl ?_
  refine uh_new (ci := 6) 107 h221 (by decide) hR dX3_init_98 (by decide +kernel) (by decide) (Nat.le_of_ble_eq_true rfl) (Nat.le_of_ble_eq_true rfl) (fun G22 T22 hs22 h222 hF22 => ?_)
  rw [← hs22, bS_eq] at ho
  have hF22 := hF21.tr hF22
  change R _ _ _ _ 6 231
  refine us_dup hR dX3_init_101 rfl ?_
  refine us_bipushC hR dX3_init_102 (c := 75) (by decide) ?_
  have hg := gd_c ho
  rw [gd_e hg] at ho
  refine us_callI hR dX3_init_104 (y := 6000) (by decide +kernel) (by decide) (J := i6000) rfl rfl rfl rfl (H_raw7 h222 hg) rfl (Nat.le_of_ble_eq_true rfl) (Nat.le_of_ble_eq_true rfl) (Nat.le_of_ble_eq_true rfl) ?_
  refine hr_init h222 hg (by decide) (fun G23 T23 hs23 h223 hF23 => ?_)
  rw [← hs23, bS_eq] at ho
  have hF23 := hF22.tr hF23
  change R _ _ _ _ 5 156
  have hg := gd_c ho
  rw [gd_e hg] at ho
  refine uh_putR h223 hg (by decide) hR dX3_init_107 fR_4_42 (Or.inr ⟨rfl, rfl⟩) rfl (fun G24 T24 hs24 h224 hF24 => ?_)
  rw [← hs24, bS_eq] at ho
  have hF24 := hF23.tr hF24
  refine us_aload_n hR dX3_init_110 rfl ?_
  refine uh_new (ci := 6) 107 h224 (by decide) hR dX3_init_111 (by decide +kernel) (by decide) (Nat.le_of_ble_eq_true rfl) (Nat.le_of_ble_eq_true rfl) (fun G25 T25 hs25 h225 hF25 => ?_)
  rw [← hs25, bS_eq] at ho
  have hF25 := hF24.tr hF25
  change R _ _ _ _ 4 154
  refine us_dup hR dX3_init_114 rfl ?_
  refine us_bipushC hR dX3_init_115 (c := 75) (by decide) ?_
  have hg := gd_c ho
  rw [gd_e hg] at ho
  refine us_callI hR dX3_init_117 (y := 6000) (by decide +kernel) (by decide) (J := i6000) rfl rfl rfl rfl (H_raw7 h225 hg) rfl (Nat.le_of_ble_eq_true rfl) (Nat.le_of_ble_eq_true rfl) (Nat.le_of_ble_eq_true rfl) ?_
  refine hr_init h225 hg (by decide) (fun G26 T26 hs26 h226 hF26 => ?_)
  rw [← hs26, bS_eq] at ho
  have hF26 := hF25.tr hF26
  change R _ _ _ _ 3 79
  have hg := gd_c ho
  rw [gd_e hg] at ho
  refine uh_putR h226 hg (by decide) hR dX3_init_120 fR_4_45 (Or.inr ⟨rfl, rfl⟩) rfl (fun G27 T27 hs27 h227 hF27 => ?_)
  rw [← hs27, bS_eq] at ho
  have hF27 := hF26.tr hF27
  refine us_aload_n hR dX3_init_123 rfl ?_
  refine us_iconstC hR dX3_init_124 (c := 0) (by decide) ?_
  have hg := gd_c ho
  rw [gd_e hg] at ho
  refine uh_putI h227 hg (by decide) hR dX3_init_125 fR_4_48 (Or.inl rfl) rfl rfl (fun G28 T28 hs28 h228 hF28 => ?_)
  rw [← hs28, bS_eq] at ho
  have hF28 := hF27.tr hF28
  refine us_vret hR dX3_init_128 rfl ?_
  cases ho
  exact h _ h228 hF28
def h_5000 (me : Nat) (x0 : Nat) (T : Tx) : Option Tx :=
  bS (tNew T 107) fun T1 =>
  gd (tK T1 (tZ T) = 107) <|
  bS (tRow T1 (tZ T) (Int32.toNatClampNeg 8)) fun T2 =>
  gd (tK T2 me = 6) <|
  bS (tsW T2 me 6 (some (tZ T))) fun T3 =>
  bS (tNew T3 107) fun T4 =>
  gd (tK T4 (tZ T3) = 107) <|
  bS (tRow T4 (tZ T3) (Int32.toNatClampNeg 8)) fun T5 =>
  gd (tK T5 me = 6) <|
  bS (tsW T5 me 7 (some (tZ T3))) fun T6 =>
  bS (tNew T6 107) fun T7 =>
  gd (tK T7 (tZ T6) = 107) <|
  bS (tRow T7 (tZ T6) (Int32.toNatClampNeg 150)) fun T8 =>
  gd (tK T8 me = 6) <|
  bS (tsW T8 me 8 (some (tZ T6))) fun T9 =>
  bS (tNew T9 107) fun T10 =>
  gd (tK T10 (tZ T9) = 107) <|
  bS (tRow T10 (tZ T9) (Int32.toNatClampNeg 150)) fun T11 =>
  gd (tK T11 me = 6) <|
  bS (tsW T11 me 9 (some (tZ T9))) fun T12 =>
  bS (tNew T12 107) fun T13 =>
  gd (tK T13 (tZ T12) = 107) <|
  bS (tRow T13 (tZ T12) (Int32.toNatClampNeg 150)) fun T14 =>
  gd (tK T14 me = 6) <|
  bS (tsW T14 me 10 (some (tZ T12))) fun T15 =>
  gd (tK T15 me = 6) <|
  bS (tsW T15 me 0 (some x0)) fun T16 =>
  gd (tK T16 x0 = 5) <|
  bP (tW T16 x0 0) fun r17 =>
  gd (tK T16 me = 6) <|
  bS (tsW T16 me 1 (some r17)) fun T18 =>
  some T18
theorem sh_5000 {F : Nat → Prop} {d : Nat} {G : ab_G} {T : Tx} {P : ab_Pq} {X : ab_Xq} (h2 : Rep2 F G T) {me : Nat} {x0 : Nat} {o : Tx} (ho : h_5000 me x0 T = some o) (h : ∀ G1, Rep2 F G1 o → SameF F G G1 → P G1 none) : ab_Gam (d + 2) 5000 [.ref me, .ref x0] G P X := by
  have hF : SameF F G G := SameF_rfl
  unfold h_5000 at ho
  refine ab_enter (I := i5000) rfl (Nat.le_of_ble_eq_true rfl) (fun R hR => ?_)
  change R _ _ _ _ 10 500
  refine us_aload_n hR dX4_init_0 rfl ?_
  refine us_objInit hR dX4_init_1 (by decide +kernel) (Nat.le_of_ble_eq_true rfl) ?_
  refine us_aload_n hR dX4_init_4 rfl ?_
  refine uh_new (ci := 6) 107 h2 (by decide) hR dX4_init_5 (by decide +kernel) (by decide) (Nat.le_of_ble_eq_true rfl) (Nat.le_of_ble_eq_true rfl) (fun G1 T1 hs1 h21 hF1 => ?_)
  rw [← hs1, bS_eq] at ho
  have hF1 := hF.tr hF1
  change R _ _ _ _ 9 498
  refine us_dup hR dX4_init_8 rfl ?_
  refine us_bipushC hR dX4_init_9 (c := 8) (by decide) ?_
  have hg := gd_c ho
  rw [gd_e hg] at ho
  refine us_callI hR dX4_init_11 (y := 6000) (by decide +kernel) (by decide) (J := i6000) rfl rfl rfl rfl (H_raw7 h21 hg) rfl (Nat.le_of_ble_eq_true rfl) (Nat.le_of_ble_eq_true rfl) (Nat.le_of_ble_eq_true rfl) ?_
  refine hr_init h21 hg (by decide) (fun G2 T2 hs2 h22 hF2 => ?_)
  rw [← hs2, bS_eq] at ho
  have hF2 := hF1.tr hF2
  change R _ _ _ _ 8 490
  have hg := gd_c ho
  rw [gd_e hg] at ho
  refine uh_putR h22 hg (by decide) hR dX4_init_14 fR_5_14 (Or.inr ⟨rfl, rfl⟩) rfl (fun G3 T3 hs3 h23 hF3 => ?_)
  rw [← hs3, bS_eq] at ho
  have hF3 := hF2.tr hF3
  refine us_aload_n hR dX4_init_17 rfl ?_
  refine uh_new (ci := 6) 107 h23 (by decide) hR dX4_init_18 (by decide +kernel) (by decide) (Nat.le_of_ble_eq_true rfl) (Nat.le_of_ble_eq_true rfl) (fun G4 T4 hs4 h24 hF4 => ?_)
  rw [← hs4, bS_eq] at ho
  have hF4 := hF3.tr hF4
  change R _ _ _ _ 7 488
  refine us_dup hR dX4_init_21 rfl ?_
  refine us_bipushC hR dX4_init_22 (c := 8) (by decide) ?_
  have hg := gd_c ho
  rw [gd_e hg] at ho
  refine us_callI hR dX4_init_24 (y := 6000) (by decide +kernel) (by decide) (J := i6000) rfl rfl rfl rfl (H_raw7 h24 hg) rfl (Nat.le_of_ble_eq_true rfl) (Nat.le_of_ble_eq_true rfl) (Nat.le_of_ble_eq_true rfl) ?_
  refine hr_init h24 hg (by decide) (fun G5 T5 hs5 h25 hF5 => ?_)
  rw [← hs5, bS_eq] at ho
  have hF5 := hF4.tr hF5
  change R _ _ _ _ 6 480
  have hg := gd_c ho
  rw [gd_e hg] at ho
  refine uh_putR h25 hg (by decide) hR dX4_init_27 fR_5_20 (Or.inr ⟨rfl, rfl⟩) rfl (fun G6 T6 hs6 h26 hF6 => ?_)
  rw [← hs6, bS_eq] at ho
  have hF6 := hF5.tr hF6
  refine us_aload_n hR dX4_init_30 rfl ?_
  refine uh_new (ci := 6) 107 h26 (by decide) hR dX4_init_31 (by decide +kernel) (by decide) (Nat.le_of_ble_eq_true rfl) (Nat.le_of_ble_eq_true rfl) (fun G7 T7 hs7 h27 hF7 => ?_)
  rw [← hs7, bS_eq] at ho
  have hF7 := hF6.tr hF7
  change R _ _ _ _ 5 478
  refine us_dup hR dX4_init_34 rfl ?_
  refine us_sipushC hR dX4_init_35 (c := 150) (by decide) ?_
  have hg := gd_c ho
  rw [gd_e hg] at ho
  refine us_callI hR dX4_init_38 (y := 6000) (by decide +kernel) (by decide) (J := i6000) rfl rfl rfl rfl (H_raw7 h27 hg) rfl (Nat.le_of_ble_eq_true rfl) (Nat.le_of_ble_eq_true rfl) (Nat.le_of_ble_eq_true rfl) ?_
  refine hr_init h27 hg (by decide) (fun G8 T8 hs8 h28 hF8 => ?_)
  rw [← hs8, bS_eq] at ho
  have hF8 := hF7.tr hF8
  change R _ _ _ _ 4 328
  have hg := gd_c ho
  rw [gd_e hg] at ho
  refine uh_putR h28 hg (by decide) hR dX4_init_41 fR_5_23 (Or.inr ⟨rfl, rfl⟩) rfl (fun G9 T9 hs9 h29 hF9 => ?_)
  rw [← hs9, bS_eq] at ho
  have hF9 := hF8.tr hF9
  refine us_aload_n hR dX4_init_44 rfl ?_
  refine uh_new (ci := 6) 107 h29 (by decide) hR dX4_init_45 (by decide +kernel) (by decide) (Nat.le_of_ble_eq_true rfl) (Nat.le_of_ble_eq_true rfl) (fun G10 T10 hs10 h210 hF10 => ?_)
  rw [← hs10, bS_eq] at ho
  have hF10 := hF9.tr hF10
  change R _ _ _ _ 3 326
  refine us_dup hR dX4_init_48 rfl ?_
  refine us_sipushC hR dX4_init_49 (c := 150) (by decide) ?_
  have hg := gd_c ho
  rw [gd_e hg] at ho
  refine us_callI hR dX4_init_52 (y := 6000) (by decide +kernel) (by decide) (J := i6000) rfl rfl rfl rfl (H_raw7 h210 hg) rfl (Nat.le_of_ble_eq_true rfl) (Nat.le_of_ble_eq_true rfl) (Nat.le_of_ble_eq_true rfl) ?_
  refine hr_init h210 hg (by decide) (fun G11 T11 hs11 h211 hF11 => ?_)
  rw [← hs11, bS_eq] at ho
  have hF11 := hF10.tr hF11
  change R _ _ _ _ 2 176
  have hg := gd_c ho
  rw [gd_e hg] at ho
  refine uh_putR h211 hg (by decide) hR dX4_init_55 fR_5_26 (Or.inr ⟨rfl, rfl⟩) rfl (fun G12 T12 hs12 h212 hF12 => ?_)
  rw [← hs12, bS_eq] at ho
  have hF12 := hF11.tr hF12
  refine us_aload_n hR dX4_init_58 rfl ?_
  refine uh_new (ci := 6) 107 h212 (by decide) hR dX4_init_59 (by decide +kernel) (by decide) (Nat.le_of_ble_eq_true rfl) (Nat.le_of_ble_eq_true rfl) (fun G13 T13 hs13 h213 hF13 => ?_)
  rw [← hs13, bS_eq] at ho
  have hF13 := hF12.tr hF13
  change R _ _ _ _ 1 174
  refine us_dup hR dX4_init_62 rfl ?_
  refine us_sipushC hR dX4_init_63 (c := 150) (by decide) ?_
  have hg := gd_c ho
  rw [gd_e hg] at ho
  refine us_callI hR dX4_init_66 (y := 6000) (by decide +kernel) (by decide) (J := i6000) rfl rfl rfl rfl (H_raw7 h213 hg) rfl (Nat.le_of_ble_eq_true rfl) (Nat.le_of_ble_eq_true rfl) (Nat.le_of_ble_eq_true rfl) ?_
  refine hr_init h213 hg (by decide) (fun G14 T14 hs14 h214 hF14 => ?_)
  rw [← hs14, bS_eq] at ho
  have hF14 := hF13.tr hF14
  change R _ _ _ _ 0 24
  have hg := gd_c ho
  rw [gd_e hg] at ho
  refine uh_putR h214 hg (by decide) hR dX4_init_69 fR_5_29 (Or.inr ⟨rfl, rfl⟩) rfl (fun G15 T15 hs15 h215 hF15 => ?_)
  rw [← hs15, bS_eq] at ho
  have hF15 := hF14.tr hF15
  refine us_aload_n hR dX4_init_72 rfl ?_
  refine us_aload_n hR dX4_init_73 rfl ?_
  have hg := gd_c ho
  rw [gd_e hg] at ho
  refine uh_putR h215 hg (by decide) hR dX4_init_74 fR_5_32 (Or.inl rfl) rfl (fun G16 T16 hs16 h216 hF16 => ?_)
  rw [← hs16, bS_eq] at ho
  have hF16 := hF15.tr hF16
  refine us_aload_n hR dX4_init_77 rfl ?_
  refine us_aload_n hR dX4_init_78 rfl ?_
  have hg := gd_c ho
  rw [gd_e hg] at ho
  obtain ⟨r17, hr17⟩ := bP_ex ho
  replace ho := bP_go ho hr17
  refine uh_getR h216 hg (by decide) hr17 hR dX4_init_79 fR_5_36 rfl ?_
  have hg := gd_c ho
  rw [gd_e hg] at ho
  refine uh_putR h216 hg (by decide) hR dX4_init_82 fR_5_42 (Or.inl rfl) rfl (fun G18 T18 hs18 h218 hF18 => ?_)
  rw [← hs18, bS_eq] at ho
  have hF18 := hF16.tr hF18
  refine us_vret hR dX4_init_85 rfl ?_
  cases ho
  exact h _ h218 hF18
def h_7000 (me : Nat) (T : Tx) : Option Tx :=
  bS (tNew T 107) fun T1 =>
  gd (tK T1 (tZ T) = 107) <|
  bS (tRow T1 (tZ T) (Int32.toNatClampNeg 8)) fun T2 =>
  gd (tK T2 me = 8) <|
  bS (tsW T2 me 0 (some (tZ T))) fun T3 =>
  bS (tNew T3 107) fun T4 =>
  gd (tK T4 (tZ T3) = 107) <|
  bS (tRow T4 (tZ T3) (Int32.toNatClampNeg 32)) fun T5 =>
  gd (tK T5 me = 8) <|
  bS (tsW T5 me 1 (some (tZ T3))) fun T6 =>
  bS (tNew T6 107) fun T7 =>
  gd (tK T7 (tZ T6) = 107) <|
  bS (tRow T7 (tZ T6) (Int32.toNatClampNeg 88)) fun T8 =>
  gd (tK T8 me = 8) <|
  bS (tsW T8 me 2 (some (tZ T6))) fun T9 =>
  bS (tNew T9 107) fun T10 =>
  gd (tK T10 (tZ T9) = 107) <|
  bS (tRow T10 (tZ T9) (Int32.toNatClampNeg 10)) fun T11 =>
  gd (tK T11 me = 8) <|
  bS (tsW T11 me 3 (some (tZ T9))) fun T12 =>
  gd (tK T12 me = 8) <|
  bS (tsV T12 me 8 0) fun T13 =>
  gd (tK T13 me = 8) <|
  bP (tW T13 me 1) fun r14 =>
  gd (tK T13 r14 = 7) <|
  bS (tsB T13 r14 (List.replicate (tC T13 r14) 0)) fun T15 =>
  gd (tK T15 me = 8) <|
  bP (tW T15 me 2) fun r16 =>
  gd (tK T15 r16 = 7) <|
  bS (tsB T15 r16 (List.replicate (tC T15 r16) 0)) fun T17 =>
  some T17
theorem sh_7000 {F : Nat → Prop} {d : Nat} {G : ab_G} {T : Tx} {P : ab_Pq} {X : ab_Xq} (h2 : Rep2 F G T) {me : Nat} {o : Tx} (ho : h_7000 me T = some o) (h : ∀ G1, Rep2 F G1 o → SameF F G G1 → P G1 none) : ab_Gam (d + 2) 7000 [.ref me] G P X := by
  have hF : SameF F G G := SameF_rfl
  unfold h_7000 at ho
  refine ab_enter (I := i7000) rfl (Nat.le_of_ble_eq_true rfl) (fun R hR => ?_)
  change R _ _ _ _ 8 160
  refine us_aload_n hR dX6_init_0 rfl ?_
  refine us_objInit hR dX6_init_1 (by decide +kernel) (Nat.le_of_ble_eq_true rfl) ?_
  refine us_aload_n hR dX6_init_4 rfl ?_
  refine uh_new (ci := 6) 107 h2 (by decide) hR dX6_init_5 (by decide +kernel) (by decide) (Nat.le_of_ble_eq_true rfl) (Nat.le_of_ble_eq_true rfl) (fun G1 T1 hs1 h21 hF1 => ?_)
  rw [← hs1, bS_eq] at ho
  have hF1 := hF.tr hF1
  change R _ _ _ _ 7 158
  refine us_dup hR dX6_init_8 rfl ?_
  refine us_bipushC hR dX6_init_9 (c := 8) (by decide) ?_
  have hg := gd_c ho
  rw [gd_e hg] at ho
  refine us_callI hR dX6_init_11 (y := 6000) (by decide +kernel) (by decide) (J := i6000) rfl rfl rfl rfl (H_raw7 h21 hg) rfl (Nat.le_of_ble_eq_true rfl) (Nat.le_of_ble_eq_true rfl) (Nat.le_of_ble_eq_true rfl) ?_
  refine hr_init h21 hg (by decide) (fun G2 T2 hs2 h22 hF2 => ?_)
  rw [← hs2, bS_eq] at ho
  have hF2 := hF1.tr hF2
  change R _ _ _ _ 6 150
  have hg := gd_c ho
  rw [gd_e hg] at ho
  refine uh_putR h22 hg (by decide) hR dX6_init_14 fR_7_14 (Or.inr ⟨rfl, rfl⟩) rfl (fun G3 T3 hs3 h23 hF3 => ?_)
  rw [← hs3, bS_eq] at ho
  have hF3 := hF2.tr hF3
  refine us_aload_n hR dX6_init_17 rfl ?_
  refine uh_new (ci := 6) 107 h23 (by decide) hR dX6_init_18 (by decide +kernel) (by decide) (Nat.le_of_ble_eq_true rfl) (Nat.le_of_ble_eq_true rfl) (fun G4 T4 hs4 h24 hF4 => ?_)
  rw [← hs4, bS_eq] at ho
  have hF4 := hF3.tr hF4
  change R _ _ _ _ 5 148
  refine us_dup hR dX6_init_21 rfl ?_
  refine us_bipushC hR dX6_init_22 (c := 32) (by decide) ?_
  have hg := gd_c ho
  rw [gd_e hg] at ho
  refine us_callI hR dX6_init_24 (y := 6000) (by decide +kernel) (by decide) (J := i6000) rfl rfl rfl rfl (H_raw7 h24 hg) rfl (Nat.le_of_ble_eq_true rfl) (Nat.le_of_ble_eq_true rfl) (Nat.le_of_ble_eq_true rfl) ?_
  refine hr_init h24 hg (by decide) (fun G5 T5 hs5 h25 hF5 => ?_)
  rw [← hs5, bS_eq] at ho
  have hF5 := hF4.tr hF5
  change R _ _ _ _ 4 116
  have hg := gd_c ho
  rw [gd_e hg] at ho
  refine uh_putR h25 hg (by decide) hR dX6_init_27 fR_7_20 (Or.inr ⟨rfl, rfl⟩) rfl (fun G6 T6 hs6 h26 hF6 => ?_)
  rw [← hs6, bS_eq] at ho
  have hF6 := hF5.tr hF6
  refine us_aload_n hR dX6_init_30 rfl ?_
  refine uh_new (ci := 6) 107 h26 (by decide) hR dX6_init_31 (by decide +kernel) (by decide) (Nat.le_of_ble_eq_true rfl) (Nat.le_of_ble_eq_true rfl) (fun G7 T7 hs7 h27 hF7 => ?_)
  rw [← hs7, bS_eq] at ho
  have hF7 := hF6.tr hF7
  change R _ _ _ _ 3 114
  refine us_dup hR dX6_init_34 rfl ?_
  refine us_bipushC hR dX6_init_35 (c := 88) (by decide) ?_
  have hg := gd_c ho
  rw [gd_e hg] at ho
  refine us_callI hR dX6_init_37 (y := 6000) (by decide +kernel) (by decide) (J := i6000) rfl rfl rfl rfl (H_raw7 h27 hg) rfl (Nat.le_of_ble_eq_true rfl) (Nat.le_of_ble_eq_true rfl) (Nat.le_of_ble_eq_true rfl) ?_
  refine hr_init h27 hg (by decide) (fun G8 T8 hs8 h28 hF8 => ?_)
  rw [← hs8, bS_eq] at ho
  have hF8 := hF7.tr hF8
  change R _ _ _ _ 2 26
  have hg := gd_c ho
  rw [gd_e hg] at ho
  refine uh_putR h28 hg (by decide) hR dX6_init_40 fR_7_23 (Or.inr ⟨rfl, rfl⟩) rfl (fun G9 T9 hs9 h29 hF9 => ?_)
  rw [← hs9, bS_eq] at ho
  have hF9 := hF8.tr hF9
  refine us_aload_n hR dX6_init_43 rfl ?_
  refine uh_new (ci := 6) 107 h29 (by decide) hR dX6_init_44 (by decide +kernel) (by decide) (Nat.le_of_ble_eq_true rfl) (Nat.le_of_ble_eq_true rfl) (fun G10 T10 hs10 h210 hF10 => ?_)
  rw [← hs10, bS_eq] at ho
  have hF10 := hF9.tr hF10
  change R _ _ _ _ 1 24
  refine us_dup hR dX6_init_47 rfl ?_
  refine us_bipushC hR dX6_init_48 (c := 10) (by decide) ?_
  have hg := gd_c ho
  rw [gd_e hg] at ho
  refine us_callI hR dX6_init_50 (y := 6000) (by decide +kernel) (by decide) (J := i6000) rfl rfl rfl rfl (H_raw7 h210 hg) rfl (Nat.le_of_ble_eq_true rfl) (Nat.le_of_ble_eq_true rfl) (Nat.le_of_ble_eq_true rfl) ?_
  refine hr_init h210 hg (by decide) (fun G11 T11 hs11 h211 hF11 => ?_)
  rw [← hs11, bS_eq] at ho
  have hF11 := hF10.tr hF11
  change R _ _ _ _ 0 14
  have hg := gd_c ho
  rw [gd_e hg] at ho
  refine uh_putR h211 hg (by decide) hR dX6_init_53 fR_7_26 (Or.inr ⟨rfl, rfl⟩) rfl (fun G12 T12 hs12 h212 hF12 => ?_)
  rw [← hs12, bS_eq] at ho
  have hF12 := hF11.tr hF12
  refine us_aload_n hR dX6_init_56 rfl ?_
  refine us_iconstC hR dX6_init_57 (c := 0) (by decide) ?_
  have hg := gd_c ho
  rw [gd_e hg] at ho
  refine uh_putI h212 hg (by decide) hR dX6_init_58 fR_7_29 (Or.inl rfl) rfl rfl (fun G13 T13 hs13 h213 hF13 => ?_)
  rw [← hs13, bS_eq] at ho
  have hF13 := hF12.tr hF13
  refine us_aload_n hR dX6_init_61 rfl ?_
  have hg := gd_c ho
  rw [gd_e hg] at ho
  obtain ⟨r14, hr14⟩ := bP_ex ho
  replace ho := bP_go ho hr14
  refine uh_getR h213 hg (by decide) hr14 hR dX6_init_62 fR_7_20 rfl ?_
  have hg := gd_c ho
  rw [gd_e hg] at ho
  refine us_callV hR dX6_init_65 (y := 6009) (by decide +kernel) (by decide) (J := i6009) rfl rfl rfl rfl (H_row6 h213 hg) rfl (Nat.le_of_ble_eq_true rfl) (Nat.zero_le _) (Nat.zero_le _) ?_
  refine hr_fillWithZeros h213 hg (fun G15 T15 hs15 h215 hF15 => ?_)
  rw [← hs15, bS_eq] at ho
  have hF15 := hF13.tr hF15
  refine us_aload_n hR dX6_init_68 rfl ?_
  have hg := gd_c ho
  rw [gd_e hg] at ho
  obtain ⟨r16, hr16⟩ := bP_ex ho
  replace ho := bP_go ho hr16
  refine uh_getR h215 hg (by decide) hr16 hR dX6_init_69 fR_7_23 rfl ?_
  have hg := gd_c ho
  rw [gd_e hg] at ho
  refine us_callV hR dX6_init_72 (y := 6009) (by decide +kernel) (by decide) (J := i6009) rfl rfl rfl rfl (H_row6 h215 hg) rfl (Nat.le_of_ble_eq_true rfl) (Nat.zero_le _) (Nat.zero_le _) ?_
  refine hr_fillWithZeros h215 hg (fun G17 T17 hs17 h217 hF17 => ?_)
  rw [← hs17, bS_eq] at ho
  have hF17 := hF15.tr hF17
  refine us_vret hR dX6_init_75 rfl ?_
  cases ho
  exact h _ h217 hF17
def h_3000 (me : Nat) (x0 : Nat) (x1 : Nat) (T : Tx) : Option Tx :=
  bS (tNew T 107) fun T1 =>
  gd (tK T1 (tZ T) = 107) <|
  bS (tRow T1 (tZ T) (Int32.toNatClampNeg 1650)) fun T2 =>
  gd (tK T2 me = 4) <|
  bS (tsW T2 me 0 (some (tZ T))) fun T3 =>
  gd (tK T3 me = 4) <|
  bS (tsW T3 me 1 (some x0)) fun T4 =>
  gd (tK T4 me = 4) <|
  bS (tsW T4 me 2 (some x1)) fun T5 =>
  some T5
theorem sh_3000 {F : Nat → Prop} {d : Nat} {G : ab_G} {T : Tx} {P : ab_Pq} {X : ab_Xq} (h2 : Rep2 F G T) {me : Nat} {x0 : Nat} {x1 : Nat} {o : Tx} (ho : h_3000 me x0 x1 T = some o) (h : ∀ G1, Rep2 F G1 o → SameF F G G1 → P G1 none) : ab_Gam (d + 2) 3000 [.ref me, .ref x0, .ref x1] G P X := by
  have hF : SameF F G G := SameF_rfl
  unfold h_3000 at ho
  refine ab_enter (I := i3000) rfl (Nat.le_of_ble_eq_true rfl) (fun R hR => ?_)
  change R _ _ _ _ 2 1700
  refine us_aload_n hR dX2_init_0 rfl ?_
  refine us_objInit hR dX2_init_1 (by decide +kernel) (Nat.le_of_ble_eq_true rfl) ?_
  refine us_aload_n hR dX2_init_4 rfl ?_
  refine uh_new (ci := 6) 107 h2 (by decide) hR dX2_init_5 (by decide +kernel) (by decide) (Nat.le_of_ble_eq_true rfl) (Nat.le_of_ble_eq_true rfl) (fun G1 T1 hs1 h21 hF1 => ?_)
  rw [← hs1, bS_eq] at ho
  have hF1 := hF.tr hF1
  change R _ _ _ _ 1 1698
  refine us_dup hR dX2_init_8 rfl ?_
  refine us_sipushC hR dX2_init_9 (c := 1650) (by decide) ?_
  have hg := gd_c ho
  rw [gd_e hg] at ho
  refine us_callI hR dX2_init_12 (y := 6000) (by decide +kernel) (by decide) (J := i6000) rfl rfl rfl rfl (H_raw7 h21 hg) rfl (Nat.le_of_ble_eq_true rfl) (Nat.le_of_ble_eq_true rfl) (Nat.le_of_ble_eq_true rfl) ?_
  refine hr_init h21 hg (by decide) (fun G2 T2 hs2 h22 hF2 => ?_)
  rw [← hs2, bS_eq] at ho
  have hF2 := hF1.tr hF2
  change R _ _ _ _ 0 48
  have hg := gd_c ho
  rw [gd_e hg] at ho
  refine uh_putR h22 hg (by decide) hR dX2_init_15 fR_3_14 (Or.inr ⟨rfl, rfl⟩) rfl (fun G3 T3 hs3 h23 hF3 => ?_)
  rw [← hs3, bS_eq] at ho
  have hF3 := hF2.tr hF3
  refine us_aload_n hR dX2_init_18 rfl ?_
  refine us_aload_n hR dX2_init_19 rfl ?_
  have hg := gd_c ho
  rw [gd_e hg] at ho
  refine uh_putR h23 hg (by decide) hR dX2_init_20 fR_3_20 (Or.inl rfl) rfl (fun G4 T4 hs4 h24 hF4 => ?_)
  rw [← hs4, bS_eq] at ho
  have hF4 := hF3.tr hF4
  refine us_aload_n hR dX2_init_23 rfl ?_
  refine us_aload_n hR dX2_init_24 rfl ?_
  have hg := gd_c ho
  rw [gd_e hg] at ho
  refine uh_putR h24 hg (by decide) hR dX2_init_25 fR_3_24 (Or.inl rfl) rfl (fun G5 T5 hs5 h25 hF5 => ?_)
  rw [← hs5, bS_eq] at ho
  have hF5 := hF4.tr hF5
  refine us_vret hR dX2_init_28 rfl ?_
  cases ho
  exact h _ h25 hF5
def h_10000 (me : Nat) (x0 : Nat) (x1 : Nat) (T : Tx) : Option Tx :=
  bS (tNew T 107) fun T1 =>
  gd (tK T1 (tZ T) = 107) <|
  bS (tRow T1 (tZ T) (Int32.toNatClampNeg 1650)) fun T2 =>
  gd (tK T2 me = 11) <|
  bS (tsW T2 me 0 (some (tZ T))) fun T3 =>
  bS (tNew T3 107) fun T4 =>
  gd (tK T4 (tZ T3) = 107) <|
  bS (tRow T4 (tZ T3) (Int32.toNatClampNeg 1650)) fun T5 =>
  gd (tK T5 me = 11) <|
  bS (tsW T5 me 1 (some (tZ T3))) fun T6 =>
  gd (tK T6 me = 11) <|
  bS (tsW T6 me 2 (some x0)) fun T7 =>
  gd (tK T7 x0 = 5) <|
  bP (tW T7 x0 0) fun r8 =>
  gd (tK T7 me = 11) <|
  bS (tsW T7 me 3 (some r8)) fun T9 =>
  gd (tK T9 me = 11) <|
  bS (tsW T9 me 4 (some x1)) fun T10 =>
  some T10
theorem sh_10000 {F : Nat → Prop} {d : Nat} {G : ab_G} {T : Tx} {P : ab_Pq} {X : ab_Xq} (h2 : Rep2 F G T) {me : Nat} {x0 : Nat} {x1 : Nat} {o : Tx} (ho : h_10000 me x0 x1 T = some o) (h : ∀ G1, Rep2 F G1 o → SameF F G G1 → P G1 none) : ab_Gam (d + 2) 10000 [.ref me, .ref x0, .ref x1] G P X := by
  have hF : SameF F G G := SameF_rfl
  unfold h_10000 at ho
  refine ab_enter (I := i10000) rfl (Nat.le_of_ble_eq_true rfl) (fun R hR => ?_)
  change R _ _ _ _ 4 3400
  refine us_aload_n hR dX9_init_0 rfl ?_
  refine us_objInit hR dX9_init_1 (by decide +kernel) (Nat.le_of_ble_eq_true rfl) ?_
  refine us_aload_n hR dX9_init_4 rfl ?_
  refine uh_new (ci := 6) 107 h2 (by decide) hR dX9_init_5 (by decide +kernel) (by decide) (Nat.le_of_ble_eq_true rfl) (Nat.le_of_ble_eq_true rfl) (fun G1 T1 hs1 h21 hF1 => ?_)
  rw [← hs1, bS_eq] at ho
  have hF1 := hF.tr hF1
  change R _ _ _ _ 3 3398
  refine us_dup hR dX9_init_8 rfl ?_
  refine us_sipushC hR dX9_init_9 (c := 1650) (by decide) ?_
  have hg := gd_c ho
  rw [gd_e hg] at ho
  refine us_callI hR dX9_init_12 (y := 6000) (by decide +kernel) (by decide) (J := i6000) rfl rfl rfl rfl (H_raw7 h21 hg) rfl (Nat.le_of_ble_eq_true rfl) (Nat.le_of_ble_eq_true rfl) (Nat.le_of_ble_eq_true rfl) ?_
  refine hr_init h21 hg (by decide) (fun G2 T2 hs2 h22 hF2 => ?_)
  rw [← hs2, bS_eq] at ho
  have hF2 := hF1.tr hF2
  change R _ _ _ _ 2 1748
  have hg := gd_c ho
  rw [gd_e hg] at ho
  refine uh_putR h22 hg (by decide) hR dX9_init_15 fR_10_14 (Or.inr ⟨rfl, rfl⟩) rfl (fun G3 T3 hs3 h23 hF3 => ?_)
  rw [← hs3, bS_eq] at ho
  have hF3 := hF2.tr hF3
  refine us_aload_n hR dX9_init_18 rfl ?_
  refine uh_new (ci := 6) 107 h23 (by decide) hR dX9_init_19 (by decide +kernel) (by decide) (Nat.le_of_ble_eq_true rfl) (Nat.le_of_ble_eq_true rfl) (fun G4 T4 hs4 h24 hF4 => ?_)
  rw [← hs4, bS_eq] at ho
  have hF4 := hF3.tr hF4
  change R _ _ _ _ 1 1746
  refine us_dup hR dX9_init_22 rfl ?_
  refine us_sipushC hR dX9_init_23 (c := 1650) (by decide) ?_
  have hg := gd_c ho
  rw [gd_e hg] at ho
  refine us_callI hR dX9_init_26 (y := 6000) (by decide +kernel) (by decide) (J := i6000) rfl rfl rfl rfl (H_raw7 h24 hg) rfl (Nat.le_of_ble_eq_true rfl) (Nat.le_of_ble_eq_true rfl) (Nat.le_of_ble_eq_true rfl) ?_
  refine hr_init h24 hg (by decide) (fun G5 T5 hs5 h25 hF5 => ?_)
  rw [← hs5, bS_eq] at ho
  have hF5 := hF4.tr hF5
  change R _ _ _ _ 0 96
  have hg := gd_c ho
  rw [gd_e hg] at ho
  refine uh_putR h25 hg (by decide) hR dX9_init_29 fR_10_20 (Or.inr ⟨rfl, rfl⟩) rfl (fun G6 T6 hs6 h26 hF6 => ?_)
  rw [← hs6, bS_eq] at ho
  have hF6 := hF5.tr hF6
  refine us_aload_n hR dX9_init_32 rfl ?_
  refine us_aload_n hR dX9_init_33 rfl ?_
  have hg := gd_c ho
  rw [gd_e hg] at ho
  refine uh_putR h26 hg (by decide) hR dX9_init_34 fR_10_23 (Or.inl rfl) rfl (fun G7 T7 hs7 h27 hF7 => ?_)
  rw [← hs7, bS_eq] at ho
  have hF7 := hF6.tr hF7
  refine us_aload_n hR dX9_init_37 rfl ?_
  refine us_aload_n hR dX9_init_38 rfl ?_
  have hg := gd_c ho
  rw [gd_e hg] at ho
  obtain ⟨r8, hr8⟩ := bP_ex ho
  replace ho := bP_go ho hr8
  refine uh_getR h27 hg (by decide) hr8 hR dX9_init_39 fR_10_27 rfl ?_
  have hg := gd_c ho
  rw [gd_e hg] at ho
  refine uh_putR h27 hg (by decide) hR dX9_init_42 fR_10_33 (Or.inl rfl) rfl (fun G9 T9 hs9 h29 hF9 => ?_)
  rw [← hs9, bS_eq] at ho
  have hF9 := hF7.tr hF9
  refine us_aload_n hR dX9_init_45 rfl ?_
  refine us_aload_n hR dX9_init_46 rfl ?_
  have hg := gd_c ho
  rw [gd_e hg] at ho
  refine uh_putR h29 hg (by decide) hR dX9_init_47 fR_10_34 (Or.inl rfl) rfl (fun G10 T10 hs10 h210 hF10 => ?_)
  rw [← hs10, bS_eq] at ho
  have hF10 := hF9.tr hF10
  refine us_vret hR dX9_init_50 rfl ?_
  cases ho
  exact h _ h210 hF10
def h_8000 (me : Nat) (x0 : Int32) (x1 : Int32) (x2 : Int32) (x3 : Int32) (x4 : Int32) (x5 : Int32) (T : Tx) : Option Tx :=
  gd (tK T me = 9) <|
  bS (tsV T me 0 x0) fun T1 =>
  gd (tK T1 me = 9) <|
  bS (tsV T1 me 1 x1) fun T2 =>
  gd (tK T2 me = 9) <|
  bS (tsV T2 me 2 x2) fun T3 =>
  gd (tK T3 me = 9) <|
  bS (tsV T3 me 3 x3) fun T4 =>
  gd (tK T4 me = 9) <|
  bS (tsV T4 me 4 x4) fun T5 =>
  gd (tK T5 me = 9) <|
  bS (tsV T5 me 5 x5) fun T6 =>
  some T6
theorem sh_8000 {F : Nat → Prop} {d : Nat} {G : ab_G} {T : Tx} {P : ab_Pq} {X : ab_Xq} (h2 : Rep2 F G T) {me : Nat} {x0 : Int32} {x1 : Int32} {x2 : Int32} {x3 : Int32} {x4 : Int32} {x5 : Int32} {o : Tx} (ho : h_8000 me x0 x1 x2 x3 x4 x5 T = some o) (h : ∀ G1, Rep2 F G1 o → SameF F G G1 → P G1 none) : ab_Gam (d + 1) 8000 [.ref me, .int x0, .int x1, .int x2, .int x3, .int x4, .int x5] G P X := by
  have hF : SameF F G G := SameF_rfl
  unfold h_8000 at ho
  refine ab_enter (I := i8000) rfl (Nat.le_of_ble_eq_true rfl) (fun R hR => ?_)
  refine us_aload_n hR dX7_init_0 rfl ?_
  refine us_objInit hR dX7_init_1 (by decide +kernel) (Nat.le_of_ble_eq_true rfl) ?_
  refine us_aload_n hR dX7_init_4 rfl ?_
  refine us_iload_n hR dX7_init_5 rfl ?_
  have hg := gd_c ho
  rw [gd_e hg] at ho
  refine uh_putI h2 hg (by decide) hR dX7_init_6 fR_8_9 (Or.inr ⟨rfl, rfl⟩) rfl rfl (fun G1 T1 hs1 h21 hF1 => ?_)
  rw [← hs1, bS_eq] at ho
  have hF1 := hF.tr hF1
  refine us_aload_n hR dX7_init_9 rfl ?_
  refine us_iload_n hR dX7_init_10 rfl ?_
  have hg := gd_c ho
  rw [gd_e hg] at ho
  refine uh_putI h21 hg (by decide) hR dX7_init_11 fR_8_15 (Or.inr ⟨rfl, rfl⟩) rfl rfl (fun G2 T2 hs2 h22 hF2 => ?_)
  rw [← hs2, bS_eq] at ho
  have hF2 := hF1.tr hF2
  refine us_aload_n hR dX7_init_14 rfl ?_
  refine us_iload_n hR dX7_init_15 rfl ?_
  have hg := gd_c ho
  rw [gd_e hg] at ho
  refine uh_putI h22 hg (by decide) hR dX7_init_16 fR_8_18 (Or.inr ⟨rfl, rfl⟩) rfl rfl (fun G3 T3 hs3 h23 hF3 => ?_)
  rw [← hs3, bS_eq] at ho
  have hF3 := hF2.tr hF3
  refine us_aload_n hR dX7_init_19 rfl ?_
  refine us_iload hR dX7_init_20 rfl ?_
  have hg := gd_c ho
  rw [gd_e hg] at ho
  refine uh_putI h23 hg (by decide) hR dX7_init_22 fR_8_21 (Or.inr ⟨rfl, rfl⟩) rfl rfl (fun G4 T4 hs4 h24 hF4 => ?_)
  rw [← hs4, bS_eq] at ho
  have hF4 := hF3.tr hF4
  refine us_aload_n hR dX7_init_25 rfl ?_
  refine us_iload hR dX7_init_26 rfl ?_
  have hg := gd_c ho
  rw [gd_e hg] at ho
  refine uh_putI h24 hg (by decide) hR dX7_init_28 fR_8_24 (Or.inr ⟨rfl, rfl⟩) rfl rfl (fun G5 T5 hs5 h25 hF5 => ?_)
  rw [← hs5, bS_eq] at ho
  have hF5 := hF4.tr hF5
  refine us_aload_n hR dX7_init_31 rfl ?_
  refine us_iload hR dX7_init_32 rfl ?_
  have hg := gd_c ho
  rw [gd_e hg] at ho
  refine uh_putI h25 hg (by decide) hR dX7_init_34 fR_8_27 (Or.inr ⟨rfl, rfl⟩) rfl rfl (fun G6 T6 hs6 h26 hF6 => ?_)
  rw [← hs6, bS_eq] at ho
  have hF6 := hF5.tr hF6
  refine us_vret hR dX7_init_37 rfl ?_
  cases ho
  exact h _ h26 hF6
def h_2000 (me : Nat) (x0 : Int32) (x1 : Int32) (x2 : Int32) (T : Tx) : Option Tx :=
  bS (tNew T 101) fun T1 =>
  gd (tK T1 (tZ T) = 101) <|
  bS (tLst T1 (tZ T)) fun T2 =>
  gd (tK T2 me = 3) <|
  bS (tsW T2 me 3 (some (tZ T))) fun T3 =>
  gd (tK T3 me = 3) <|
  bS (tsV T3 me 0 x0) fun T4 =>
  gd (tK T4 me = 3) <|
  bS (tsV T4 me 1 x1) fun T5 =>
  gd (tK T5 me = 3) <|
  bS (tsV T5 me 2 x2) fun T6 =>
  some T6
theorem sh_2000 {F : Nat → Prop} {d : Nat} {G : ab_G} {T : Tx} {P : ab_Pq} {X : ab_Xq} (h2 : Rep2 F G T) {me : Nat} {x0 : Int32} {x1 : Int32} {x2 : Int32} {o : Tx} (ho : h_2000 me x0 x1 x2 T = some o) (h : ∀ G1, Rep2 F G1 o → SameF F G G1 → P G1 none) : ab_Gam (d + 42) 2000 [.ref me, .int x0, .int x1, .int x2] G P X := by
  have hF : SameF F G G := SameF_rfl
  unfold h_2000 at ho
  refine ab_enter (I := i2000) rfl (Nat.le_of_ble_eq_true rfl) (fun R hR => ?_)
  change R _ _ _ _ 1 3
  refine us_aload_n hR dX1_init_0 rfl ?_
  refine us_objInit hR dX1_init_1 (by decide +kernel) (Nat.le_of_ble_eq_true rfl) ?_
  refine us_aload_n hR dX1_init_4 rfl ?_
  refine uh_new (ci := 0) 101 h2 (by decide) hR dX1_init_5 (by decide +kernel) (by decide) (Nat.le_of_ble_eq_true rfl) (Nat.le_of_ble_eq_true rfl) (fun G1 T1 hs1 h21 hF1 => ?_)
  rw [← hs1, bS_eq] at ho
  have hF1 := hF.tr hF1
  change R _ _ _ _ 0 0
  refine us_dup hR dX1_init_8 rfl ?_
  have hg := gd_c ho
  rw [gd_e hg] at ho
  refine us_pri4 hR dX1_init_9 (by decide +kernel) (H_raw1 h21 hg) (Nat.le_of_ble_eq_true rfl) ?_
  refine hl_init h21 hg (fun G2 T2 hs2 h22 hF2 => ?_)
  rw [← hs2, bS_eq] at ho
  have hF2 := hF1.tr hF2
  have hg := gd_c ho
  rw [gd_e hg] at ho
  refine uh_putR h22 hg (by decide) hR dX1_init_12 fR_2_10 (Or.inr ⟨rfl, rfl⟩) rfl (fun G3 T3 hs3 h23 hF3 => ?_)
  rw [← hs3, bS_eq] at ho
  have hF3 := hF2.tr hF3
  refine us_aload_n hR dX1_init_15 rfl ?_
  refine us_iload_n hR dX1_init_16 rfl ?_
  have hg := gd_c ho
  rw [gd_e hg] at ho
  refine uh_putI h23 hg (by decide) hR dX1_init_17 fR_2_16 (Or.inr ⟨rfl, rfl⟩) rfl rfl (fun G4 T4 hs4 h24 hF4 => ?_)
  rw [← hs4, bS_eq] at ho
  have hF4 := hF3.tr hF4
  refine us_aload_n hR dX1_init_20 rfl ?_
  refine us_iload_n hR dX1_init_21 rfl ?_
  have hg := gd_c ho
  rw [gd_e hg] at ho
  refine uh_putI h24 hg (by decide) hR dX1_init_22 fR_2_20 (Or.inr ⟨rfl, rfl⟩) rfl rfl (fun G5 T5 hs5 h25 hF5 => ?_)
  rw [← hs5, bS_eq] at ho
  have hF5 := hF4.tr hF5
  refine us_aload_n hR dX1_init_25 rfl ?_
  refine us_iload_n hR dX1_init_26 rfl ?_
  have hg := gd_c ho
  rw [gd_e hg] at ho
  refine uh_putI h25 hg (by decide) hR dX1_init_27 fR_2_23 (Or.inr ⟨rfl, rfl⟩) rfl rfl (fun G6 T6 hs6 h26 hF6 => ?_)
  rw [← hs6, bS_eq] at ho
  have hF6 := hF5.tr hF6
  refine us_vret hR dX1_init_30 rfl ?_
  cases ho
  exact h _ h26 hF6
def h_1000 (me : Nat) (x0 : Int32) (x1 : Nat) (x2 : Int32) (x3 : Nat) (T : Tx) : Option Tx :=
  bS (tNew T 107) fun T1 =>
  gd (tK T1 (tZ T) = 107) <|
  bS (tRow T1 (tZ T) (Int32.toNatClampNeg 8)) fun T2 =>
  gd (tK T2 me = 2) <|
  bS (tsW T2 me 4 (some (tZ T))) fun T3 =>
  bS (tNew T3 107) fun T4 =>
  gd (tK T4 (tZ T3) = 107) <|
  bS (tRow T4 (tZ T3) (Int32.toNatClampNeg 8)) fun T5 =>
  gd (tK T5 me = 2) <|
  bS (tsW T5 me 5 (some (tZ T3))) fun T6 =>
  bS (tNew T6 107) fun T7 =>
  gd (tK T7 (tZ T6) = 107) <|
  bS (tRow T7 (tZ T6) (Int32.toNatClampNeg 30)) fun T8 =>
  gd (tK T8 me = 2) <|
  bS (tsW T8 me 6 (some (tZ T6))) fun T9 =>
  gd (tK T9 me = 2) <|
  bS (tsV T9 me 0 x0) fun T10 =>
  gd (tK T10 me = 2) <|
  bS (tsW T10 me 1 (some x1)) fun T11 =>
  gd (tK T11 me = 2) <|
  bS (tsV T11 me 3 x2) fun T12 =>
  gd (tK T12 me = 2) <|
  bS (tsW T12 me 2 (some x3)) fun T13 =>
  some T13
theorem sh_1000 {F : Nat → Prop} {d : Nat} {G : ab_G} {T : Tx} {P : ab_Pq} {X : ab_Xq} (h2 : Rep2 F G T) {me : Nat} {x0 : Int32} {x1 : Nat} {x2 : Int32} {x3 : Nat} {o : Tx} (ho : h_1000 me x0 x1 x2 x3 T = some o) (h : ∀ G1, Rep2 F G1 o → SameF F G G1 → P G1 none) : ab_Gam (d + 2) 1000 [.ref me, .int x0, .ref x1, .int x2, .ref x3] G P X := by
  have hF : SameF F G G := SameF_rfl
  unfold h_1000 at ho
  refine ab_enter (I := i1000) rfl (Nat.le_of_ble_eq_true rfl) (fun R hR => ?_)
  change R _ _ _ _ 6 60
  refine us_aload_n hR dX0_init_0 rfl ?_
  refine us_objInit hR dX0_init_1 (by decide +kernel) (Nat.le_of_ble_eq_true rfl) ?_
  refine us_aload_n hR dX0_init_4 rfl ?_
  refine uh_new (ci := 6) 107 h2 (by decide) hR dX0_init_5 (by decide +kernel) (by decide) (Nat.le_of_ble_eq_true rfl) (Nat.le_of_ble_eq_true rfl) (fun G1 T1 hs1 h21 hF1 => ?_)
  rw [← hs1, bS_eq] at ho
  have hF1 := hF.tr hF1
  change R _ _ _ _ 5 58
  refine us_dup hR dX0_init_8 rfl ?_
  refine us_bipushC hR dX0_init_9 (c := 8) (by decide) ?_
  have hg := gd_c ho
  rw [gd_e hg] at ho
  refine us_callI hR dX0_init_11 (y := 6000) (by decide +kernel) (by decide) (J := i6000) rfl rfl rfl rfl (H_raw7 h21 hg) rfl (Nat.le_of_ble_eq_true rfl) (Nat.le_of_ble_eq_true rfl) (Nat.le_of_ble_eq_true rfl) ?_
  refine hr_init h21 hg (by decide) (fun G2 T2 hs2 h22 hF2 => ?_)
  rw [← hs2, bS_eq] at ho
  have hF2 := hF1.tr hF2
  change R _ _ _ _ 4 50
  have hg := gd_c ho
  rw [gd_e hg] at ho
  refine uh_putR h22 hg (by decide) hR dX0_init_14 fR_1_14 (Or.inr ⟨rfl, rfl⟩) rfl (fun G3 T3 hs3 h23 hF3 => ?_)
  rw [← hs3, bS_eq] at ho
  have hF3 := hF2.tr hF3
  refine us_aload_n hR dX0_init_17 rfl ?_
  refine uh_new (ci := 6) 107 h23 (by decide) hR dX0_init_18 (by decide +kernel) (by decide) (Nat.le_of_ble_eq_true rfl) (Nat.le_of_ble_eq_true rfl) (fun G4 T4 hs4 h24 hF4 => ?_)
  rw [← hs4, bS_eq] at ho
  have hF4 := hF3.tr hF4
  change R _ _ _ _ 3 48
  refine us_dup hR dX0_init_21 rfl ?_
  refine us_bipushC hR dX0_init_22 (c := 8) (by decide) ?_
  have hg := gd_c ho
  rw [gd_e hg] at ho
  refine us_callI hR dX0_init_24 (y := 6000) (by decide +kernel) (by decide) (J := i6000) rfl rfl rfl rfl (H_raw7 h24 hg) rfl (Nat.le_of_ble_eq_true rfl) (Nat.le_of_ble_eq_true rfl) (Nat.le_of_ble_eq_true rfl) ?_
  refine hr_init h24 hg (by decide) (fun G5 T5 hs5 h25 hF5 => ?_)
  rw [← hs5, bS_eq] at ho
  have hF5 := hF4.tr hF5
  change R _ _ _ _ 2 40
  have hg := gd_c ho
  rw [gd_e hg] at ho
  refine uh_putR h25 hg (by decide) hR dX0_init_27 fR_1_20 (Or.inr ⟨rfl, rfl⟩) rfl (fun G6 T6 hs6 h26 hF6 => ?_)
  rw [← hs6, bS_eq] at ho
  have hF6 := hF5.tr hF6
  refine us_aload_n hR dX0_init_30 rfl ?_
  refine uh_new (ci := 6) 107 h26 (by decide) hR dX0_init_31 (by decide +kernel) (by decide) (Nat.le_of_ble_eq_true rfl) (Nat.le_of_ble_eq_true rfl) (fun G7 T7 hs7 h27 hF7 => ?_)
  rw [← hs7, bS_eq] at ho
  have hF7 := hF6.tr hF7
  change R _ _ _ _ 1 38
  refine us_dup hR dX0_init_34 rfl ?_
  refine us_bipushC hR dX0_init_35 (c := 30) (by decide) ?_
  have hg := gd_c ho
  rw [gd_e hg] at ho
  refine us_callI hR dX0_init_37 (y := 6000) (by decide +kernel) (by decide) (J := i6000) rfl rfl rfl rfl (H_raw7 h27 hg) rfl (Nat.le_of_ble_eq_true rfl) (Nat.le_of_ble_eq_true rfl) (Nat.le_of_ble_eq_true rfl) ?_
  refine hr_init h27 hg (by decide) (fun G8 T8 hs8 h28 hF8 => ?_)
  rw [← hs8, bS_eq] at ho
  have hF8 := hF7.tr hF8
  change R _ _ _ _ 0 8
  have hg := gd_c ho
  rw [gd_e hg] at ho
  refine uh_putR h28 hg (by decide) hR dX0_init_40 fR_1_23 (Or.inr ⟨rfl, rfl⟩) rfl (fun G9 T9 hs9 h29 hF9 => ?_)
  rw [← hs9, bS_eq] at ho
  have hF9 := hF8.tr hF9
  refine us_aload_n hR dX0_init_43 rfl ?_
  refine us_iload_n hR dX0_init_44 rfl ?_
  have hg := gd_c ho
  rw [gd_e hg] at ho
  refine uh_putI h29 hg (by decide) hR dX0_init_45 fR_1_26 (Or.inr ⟨rfl, rfl⟩) rfl rfl (fun G10 T10 hs10 h210 hF10 => ?_)
  rw [← hs10, bS_eq] at ho
  have hF10 := hF9.tr hF10
  refine us_aload_n hR dX0_init_48 rfl ?_
  refine us_aload_n hR dX0_init_49 rfl ?_
  have hg := gd_c ho
  rw [gd_e hg] at ho
  refine uh_putR h210 hg (by decide) hR dX0_init_50 fR_1_30 (Or.inr ⟨rfl, rfl⟩) rfl (fun G11 T11 hs11 h211 hF11 => ?_)
  rw [← hs11, bS_eq] at ho
  have hF11 := hF10.tr hF11
  refine us_aload_n hR dX0_init_53 rfl ?_
  refine us_iload_n hR dX0_init_54 rfl ?_
  have hg := gd_c ho
  rw [gd_e hg] at ho
  refine uh_putI h211 hg (by decide) hR dX0_init_55 fR_1_34 (Or.inr ⟨rfl, rfl⟩) rfl rfl (fun G12 T12 hs12 h212 hF12 => ?_)
  rw [← hs12, bS_eq] at ho
  have hF12 := hF11.tr hF12
  refine us_aload_n hR dX0_init_58 rfl ?_
  refine us_aload hR dX0_init_59 rfl ?_
  have hg := gd_c ho
  rw [gd_e hg] at ho
  refine uh_putR h212 hg (by decide) hR dX0_init_61 fR_1_37 (Or.inr ⟨rfl, rfl⟩) rfl (fun G13 T13 hs13 h213 hF13 => ?_)
  rw [← hs13, bS_eq] at ho
  have hF13 := hF12.tr hF13
  refine us_vret hR dX0_init_64 rfl ?_
  cases ho
  exact h _ h213 hF13
