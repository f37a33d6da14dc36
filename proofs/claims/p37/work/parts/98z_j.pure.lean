/-! the law answers 1 -/
section PUR
theorem ln_o {S : Lx} {n y : Nat} (h : y ≠ tZ S.1) : (lNew S n).2 y = S.2 y := u1_n _ _ h
theorem ln_s {S : Lx} {n : Nat} : (lNew S n).2 (tZ S.1) = List.replicate n 0 := u1_s _ _ _
theorem rep_g {n k : Nat} : (List.replicate n (0 : Int32)).getD k 0 = 0 := by
  rw [List.getD_eq_getElem?_getD, List.getElem?_replicate]
  split <;> rfl
/-- the first books -/
theorem ji_0 {T : Tx} {A : Nat → List Int32} (h : SINV 0 T (fun _ _ => 0)) (hz : tZ T = 80) (h74 : A 74 = List.replicate 32 0) (h75 : A 75 = List.replicate 64 0) (h76 : A 76 = List.replicate 32 0) (h77 : A 77 = List.replicate 8 0) (h78 : A 78 = List.replicate 30 0) (h79 : A 79 = List.replicate 6 0) : JI T A 0 := by
  obtain ⟨tx, es, ts, as, ps, txs, ss, pd, own, h⟩ := h
  have htx : tx = [] := by
    obtain ⟨_, b2, _, b4, _⟩ := h.2.1.1
    have : (0 : Nat) = tx.length := (nI_eq (a := 0) (by omega) (by omega)).1 b4
    exact List.eq_nil_of_length_eq_zero this.symm
  subst htx
  refine ⟨fun _ _ => 0, [], 0, 0, fun _ => 0, 0, ⟨es, ts, as, ps, txs, ss, pd, own, h, by omega⟩, ⟨⟨rfl, by decide⟩, ⟨rfl, by decide⟩, ⟨rfl, by decide⟩, ⟨by rw [h74]; rfl, by rw [h75]; rfl, by rw [h76]; rfl, by rw [h77]; rfl, by rw [h78]; rfl, by rw [h79]; rfl⟩, ⟨by rw [h79]; rfl, by rw [h79]; rfl, by rw [h79]; rfl⟩, fun i hi => absurd hi (by omega), fun i _ _ => by rw [h77]; exact rep_g, fun i j hi => absurd hi (by omega), fun i hi => absurd hi (by omega)⟩, Or.inr ⟨rfl, rfl⟩, by decide, by decide, by rw [h79]; rfl⟩
theorem SINV.tz {T : Tx} {m : Mx} {x n : Nat} (h : SINV x T m) (hn : tZ T ≤ n) : SINV x (tz T n) m := by
  obtain ⟨_, _, _, _, _, _, _, _, _, h⟩ := h
  exact ⟨_, _, _, _, _, _, _, _, _, h.ex h.lo (h.1.of (fun _ _ _ => ⟨rfl, fun _ => rfl⟩) (fun _ _ _ _ _ _ _ _ => rfl) hn) hn (fun _ _ _ => ⟨rfl, fun _ => rfl, rfl, rfl, rfl, rfl⟩) MSn.r⟩
theorem pure : ab_Pure := by
  intro L xs hL R hR0
  have hR : ab_Cl 1000 (ab_Gam 1000) 13 i_law (L + 1) xs (fun _ r => r = some (.int 1)) (fun _ _ => False) R := hR0
  obtain ⟨T0, hT0⟩ : ∃ T0 : Tx, T0 = (fun _ => 0, fun _ => 0, fun _ => [], fun _ _ => 0, fun _ _ => none, fun _ => [], 0) := ⟨_, rfl⟩
  have k0 : ∀ a, tK T0 a = 0 := fun a => by rw [hT0]; rfl
  have z0 : tZ T0 = 0 := by rw [hT0]; rfl
  have r0 : Rep2 (fun _ => False) ab_G0 T0 := by
    refine ⟨z0.symm, fun _ h => h.elim, fun a h => absurd (k0 a) h, fun a => ⟨fun h => ?_, fun h => ?_, fun h => ?_, fun h => ?_, fun h => ?_⟩, fun a a' b h => ?_, fun a a' b h => ?_⟩
    · rw [k0] at h; exact absurd h.1 (by decide)
    all_goals (rw [k0] at h; exact absurd h (by decide))
  change R 0 [some (.float 0), none, none, none, none, none, none, none, none, none, none] [] ab_G0 600064 7301640
  refine uh_new (ci := 11) 12 r0 (by decide) hR dL_law_0 (by decide +kernel) (by decide) (Nat.le_of_ble_eq_true rfl) (Nat.le_of_ble_eq_true rfl) (fun G1 T1 e1 r1 f1 => ?_)
  rw [z0]
  have k1 : tK T1 0 = 12 := by rw [e1, ← z0]; exact tK_new
  have z1 : 0 + 1 = tZ T1 := by rw [e1]; show 0 + 1 = tZ T0 + 1; rw [z0]
  have v1 : ∀ f, tV T1 0 f = 0 := fun f => by
    rw [e1, ← z0]
    exact congrFun (if_pos rfl) f
  refine us_dup hR dL_law_3 rfl ?_
  obtain ⟨T2, e2, s2, z2⟩ : ∃ T2, h_11000 0 T1 = some T2 ∧ SINV 0 T2 (fun _ _ => 0) ∧ tZ T2 = 74 := by
    obtain ⟨T2, a1, a2, _⟩ := SInv.ini (x := 0) (m := fun _ _ => 0) k1 z1 v1 (fun _ _ => rfl)
    obtain ⟨T3, b1, b2, _⟩ := h11000_e (x := 0) k1 z1
    rw [a1] at b1
    cases b1
    exact ⟨T2, a1, a2, b2⟩
  refine us_callI hR dL_law_4 (y := 11000) (by decide +kernel) (by decide) (J := i11000) rfl rfl rfl rfl (H_sch r1 k1) rfl (Nat.le_of_ble_eq_true rfl) (Nat.le_of_ble_eq_true rfl) (Nat.le_of_ble_eq_true rfl) ?_
  refine sh_11000 (d := 958) r1 e2 (fun G2 r2 f2 => ?_)
  refine us_astore_n hR dL_law_7 (Nat.le_of_ble_eq_true rfl) ?_
  obtain ⟨S0, hS0⟩ : ∃ S0 : Lx, S0 = (T2, fun _ => []) := ⟨_, rfl⟩
  have n0 : SINV 0 S0.1 (fun _ _ => 0) := by rw [hS0]; exact s2
  have y0 : tZ S0.1 = 74 := by rw [hS0]; exact z2
  have q0 : LRep G2 S0 := by
    have e : lFA S0.2 = fun _ => False := by
      rw [hS0]
      funext a
      exact propext ⟨fun z => z rfl, fun z => z.elim⟩
    refine ⟨by rw [e, hS0]; exact r2, fun a ha => ?_⟩
    rw [hS0] at ha
    exact absurd rfl ha
  refine us_bipushC hR dL_law_8 (c := 32) (by decide) ?_
  refine ul_newa (n := 32) q0 (by decide) (by decide) (by decide) (by decide) hR dL_law_10 (Nat.le_of_ble_eq_true rfl) (Nat.le_of_ble_eq_true rfl) (fun G3 S1 e3 q1 => ?_)
  rw [y0]
  refine us_astore_n hR dL_law_12 (Nat.le_of_ble_eq_true rfl) ?_
  have y1 : tZ S1.1 = 75 := by rw [e3]; show tZ S0.1 + 1 = 75; rw [y0]
  have n1 : SINV 0 S1.1 (fun _ _ => 0) := by rw [e3]; exact n0.tz (Nat.le_succ _)
  refine us_bipushC hR dL_law_13 (c := 64) (by decide) ?_
  refine ul_newa (n := 64) q1 (by decide) (by decide) (by decide) (by decide) hR dL_law_15 (Nat.le_of_ble_eq_true rfl) (Nat.le_of_ble_eq_true rfl) (fun G4 S2 e4 q2 => ?_)
  rw [y1]
  refine us_astore_n hR dL_law_17 (Nat.le_of_ble_eq_true rfl) ?_
  have y2 : tZ S2.1 = 76 := by rw [e4]; show tZ S1.1 + 1 = 76; rw [y1]
  have n2 : SINV 0 S2.1 (fun _ _ => 0) := by rw [e4]; exact n1.tz (Nat.le_succ _)
  refine us_bipushC hR dL_law_18 (c := 32) (by decide) ?_
  refine ul_newa (n := 32) q2 (by decide) (by decide) (by decide) (by decide) hR dL_law_20 (Nat.le_of_ble_eq_true rfl) (Nat.le_of_ble_eq_true rfl) (fun G5 S3 e5 q3 => ?_)
  rw [y2]
  refine us_astore hR dL_law_22 (Nat.le_of_ble_eq_true rfl) ?_
  have y3 : tZ S3.1 = 77 := by rw [e5]; show tZ S2.1 + 1 = 77; rw [y2]
  have n3 : SINV 0 S3.1 (fun _ _ => 0) := by rw [e5]; exact n2.tz (Nat.le_succ _)
  refine us_bipushC hR dL_law_24 (c := 8) (by decide) ?_
  refine ul_newa (n := 8) q3 (by decide) (by decide) (by decide) (by decide) hR dL_law_26 (Nat.le_of_ble_eq_true rfl) (Nat.le_of_ble_eq_true rfl) (fun G6 S4 e6 q4 => ?_)
  rw [y3]
  refine us_astore hR dL_law_28 (Nat.le_of_ble_eq_true rfl) ?_
  have y4 : tZ S4.1 = 78 := by rw [e6]; show tZ S3.1 + 1 = 78; rw [y3]
  have n4 : SINV 0 S4.1 (fun _ _ => 0) := by rw [e6]; exact n3.tz (Nat.le_succ _)
  refine us_bipushC hR dL_law_30 (c := 30) (by decide) ?_
  refine ul_newa (n := 30) q4 (by decide) (by decide) (by decide) (by decide) hR dL_law_32 (Nat.le_of_ble_eq_true rfl) (Nat.le_of_ble_eq_true rfl) (fun G7 S5 e7 q5 => ?_)
  rw [y4]
  refine us_astore hR dL_law_34 (Nat.le_of_ble_eq_true rfl) ?_
  have y5 : tZ S5.1 = 79 := by rw [e7]; show tZ S4.1 + 1 = 79; rw [y4]
  have n5 : SINV 0 S5.1 (fun _ _ => 0) := by rw [e7]; exact n4.tz (Nat.le_succ _)
  refine us_bipushC hR dL_law_36 (c := 6) (by decide) ?_
  refine ul_newa (n := 6) q5 (by decide) (by decide) (by decide) (by decide) hR dL_law_38 (Nat.le_of_ble_eq_true rfl) (Nat.le_of_ble_eq_true rfl) (fun G8 S6 e8 q6 => ?_)
  rw [y5]
  refine us_astore hR dL_law_40 (Nat.le_of_ble_eq_true rfl) ?_
  have y6 : tZ S6.1 = 80 := by rw [e8]; show tZ S5.1 + 1 = 80; rw [y5]
  have n6 : SINV 0 S6.1 (fun _ _ => 0) := by rw [e8]; exact n5.tz (Nat.le_succ _)
  have a79 : S6.2 79 = List.replicate 6 0 := by rw [e8, ← y5]; exact ln_s
  have a78 : S6.2 78 = List.replicate 30 0 := by rw [e8, ln_o (by omega), e7, ← y4]; exact ln_s
  have a77 : S6.2 77 = List.replicate 8 0 := by rw [e8, ln_o (by omega), e7, ln_o (by omega), e6, ← y3]; exact ln_s
  have a76 : S6.2 76 = List.replicate 32 0 := by rw [e8, ln_o (by omega), e7, ln_o (by omega), e6, ln_o (by omega), e5, ← y2]; exact ln_s
  have a75 : S6.2 75 = List.replicate 64 0 := by rw [e8, ln_o (by omega), e7, ln_o (by omega), e6, ln_o (by omega), e5, ln_o (by omega), e4, ← y1]; exact ln_s
  have a74 : S6.2 74 = List.replicate 32 0 := by rw [e8, ln_o (by omega), e7, ln_o (by omega), e6, ln_o (by omega), e5, ln_o (by omega), e4, ln_o (by omega), e3, ← y0]; exact ln_s
  have hJ := ji_0 n6 y6 a74 a75 a76 a77 a78 a79
  have hA : h_11021 0 S6.1 = some 0 ∧ h_11019 0 S6.1 = some 0 ∧ tK S6.1 0 = 12 := by
    obtain ⟨_, _, _, as, _, _, _, _, _, h⟩ := n6
    have e : (0 : Int32) = nI as.length := h.2.2.2.2.1.1
    have e0 := a_answers h
    rw [← e] at e0
    exact ⟨e0, a_today h, h.1.1⟩
  clear hS0
  change R 42 [some (.float 0), some (.ref 0), some (.ref 74), some (.ref 75), some (.ref 76), some (.ref 77), some (.ref 78), some (.ref 79), none, none, none] [] G8 _ _
  refine us_aload_n hR dL_law_42 rfl ?_
  refine us_callV0 hR dL_law_43 (y := 11021) (by decide +kernel) (by decide) (J := i11021) rfl rfl rfl rfl (H_kind1 q6.1 hA.2.2 (by decide)) rfl (Nat.le_of_ble_eq_true rfl) rfl rfl ?_
  refine sh_11021 (d := 958) q6.1 hA.1 ?_
  refine us_if_ne hR dL_law_46 60 (by decide) (fun c => absurd rfl c) (fun _ => ?_)
  refine us_aload_n hR dL_law_49 rfl ?_
  refine us_callV0 hR dL_law_50 (y := 11019) (by decide +kernel) (by decide) (J := i11019) rfl rfl rfl rfl (H_kind1 q6.1 hA.2.2 (by decide)) rfl (Nat.le_of_ble_eq_true rfl) rfl rfl ?_
  refine sh_11019 (d := 999) q6.1 hA.2.1 ?_
  refine us_if_ne hR dL_law_53 60 (by decide) (fun c => absurd rfl c) (fun _ => ?_)
  refine us_iconstC hR dL_law_56 (c := 1) (by decide) ?_
  refine us_goto hR dL_law_57 61 (by decide) ?_
  refine us_istore hR dL_law_61 (Nat.le_of_ble_eq_true rfl) ?_
  refine us_iconstC hR dL_law_63 (c := 0) (by decide) ?_
  refine us_istore hR dL_law_64 (Nat.le_of_ble_eq_true rfl) ?_
  exact law_L hL hR 120 0 G8 S6.1 S6.2 0 none _ _ (by decide) q6 hJ (by decide) (Nat.le_of_ble_eq_true rfl) (Nat.le_of_ble_eq_true rfl)
end PUR
