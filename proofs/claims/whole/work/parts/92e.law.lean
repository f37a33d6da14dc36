/-! the law answers 1 -/
section PUR
theorem SINV.tz {T : Tx} {m : Mx} {x n : Nat} (h : SINV x T m) (hn : tZ T ≤ n) : SINV x (tz T n) m := by
  obtain ⟨_, _, _, _, _, _, _, _, _, h⟩ := h
  exact ⟨_, _, _, _, _, _, _, _, _, h.ex h.lo (h.1.of (fun _ _ _ => ⟨rfl, fun _ => rfl⟩) (fun _ _ _ _ _ _ _ _ => rfl) hn) hn (fun _ _ _ => ⟨rfl, fun _ => rfl, rfl, rfl, rfl, rfl⟩) MSn.r⟩
theorem sc_L {L : Nat} (h : L ≤ 4096) : (Int32.ofNat L).toInt = L := nI_T (by omega)
theorem sc_sub {L : Nat} (h : L ≤ 4096) : (Int32.ofNat L - 8).toInt = (L : Int) - 8 := by
  rw [Int32.toInt_sub, sc_L h, show (8 : Int32).toInt = 8 by decide, Int.bmod_eq_of_le (by omega) (by omega)]
theorem sc_add {k : Nat} {c : Int32} (h : k ≤ 5000) (h0 : 0 ≤ c.toInt) (h8 : c.toInt < 8) : (nI k + c).toInt = k + c.toInt := by
  rw [Int32.toInt_add, nI_T (by omega), Int.bmod_eq_of_le (by omega) (by omega)]
/-- the law goes on -/
theorem law_L {L : Nat} {scX : Nat → Int32} {X : ab_Xq} {R : ab_K} (hL : L ≤ 4096) (hR : ab_Cl 1000 (ab_Gam 1000) 13 i_law (L + 1) scX (fun _ r => r = some (.int 1)) X R) : ∀ (q j : Nat) (G : ab_G) (m : Mx) (w5 w6 : Option Value) (bc bs : Nat), j + q = 512 → LIw G m → 500 * q ≤ bc → 10000 * q ≤ bs → R 23 [some (.float 0), some (.ref 0), some (.ref 74), some (.ref 126), some (.int (nI (8 * j))), w5, w6] [] G bc bs := by
  intro q
  induction q with
  | zero =>
    intro j G m w5 w6 bc bs hj hI hb1 hb2
    refine us_iload hR dL_law_23 rfl ?_
    refine us_aload_nF hR dL_law_25 rfl ?_
    refine us_scrlen hR dL_law_26 rfl (Nat.succ_ne_zero L) ?_
    refine us_bipushC hR dL_law_27 (c := 8) (by decide) ?_
    refine us_isub hR dL_law_29 ?_
    refine us_icmp_gt hR dL_law_30 2029 (by decide) (fun _ => ?_) (fun hc => ?_)
    · exact us_iconstC hR dL_law_2029 (c := 1) (by decide) (us_iret hR dL_law_2030 rfl rfl rfl)
    · exact absurd (show (Int32.ofNat L - 8) < nI (8 * j) by rw [i_lt, sc_sub hL, nI_T (by omega)]; omega) hc
  | succ q ih =>
    intro j G m w5 w6 bc bs hj hI hb1 hb2
    refine us_iload hR dL_law_23 rfl ?_
    refine us_aload_nF hR dL_law_25 rfl ?_
    refine us_scrlen hR dL_law_26 rfl (Nat.succ_ne_zero L) ?_
    refine us_bipushC hR dL_law_27 (c := 8) (by decide) ?_
    refine us_isub hR dL_law_29 ?_
    refine us_icmp_gt hR dL_law_30 2029 (by decide) (fun _ => ?_) (fun hc => ?_)
    · exact us_iconstC hR dL_law_2029 (c := 1) (by decide) (us_iret hR dL_law_2030 rfl rfl rfl)
    · skip
      have hc' : 8 * j + 8 ≤ L := by
        have : ¬ (Int32.ofNat L - 8) < nI (8 * j) := hc
        rw [i_lt, sc_sub hL, nI_T (by omega)] at this
        omega
      have hv : ∀ c : Int32, 0 ≤ c.toInt → c.toInt < 8 → vp_in (nI (8 * j) + c) (L + 1 - 1) := fun c h0 h8 => vi_in ⟨by rw [sc_add (by omega) h0 h8]; omega, by rw [sc_add (by omega) h0 h8]; omega⟩
      have hv0 : vp_in (nI (8 * j)) (L + 1 - 1) := vi_in ⟨by rw [nI_T (by omega)]; omega, by rw [nI_T (by omega)]; omega⟩
      have hn : ∀ G1 m1 u5 u6 bc1 bs1, LIw G1 m1 → bc ≤ bc1 + 500 → bs ≤ bs1 + 10000 → R 2023 [some (.float 0), some (.ref 0), some (.ref 74), some (.ref 126), some (.int (nI (8 * j))), u5, u6] [] G1 bc1 bs1 := by
        intro G1 m1 u5 u6 bc1 bs1 h1 h2 h3
        refine us_iincC hR dL_law_2023 (c := 8) rfl (Nat.le_of_ble_eq_true rfl) (by decide) ?_
        refine us_goto hR dL_law_2026 23 (by decide) ?_
        rw [show nI (8 * j) + 8 = nI (8 * (j + 1)) from (nI_pl (a := 8 * j) (b := 8) (by omega) (by omega))]
        exact ih (j + 1) G1 m1 u5 u6 bc1 bs1 (by omega) h1 (by omega) (by omega)
      have b1 : 500 ≤ bc := by omega
      have b2 : 10000 ≤ bs := by omega
      refine us_aload_nF hR dL_law_33 rfl ?_
      refine us_iload hR dL_law_34 rfl ?_
      refine us_scr hR dL_law_36 rfl hv0 ?_
      refine us_bipushC hR dL_law_37 (c := 63) (by decide) ?_
      refine us_iand hR dL_law_39 ?_
      refine us_tsw hR dL_law_40 (fun _ => ⟨by decide, hn G m w5 w6 bc bs hI (by omega) (by omega)⟩) (by decide) ?_
      exact ⟨fun _ => ⟨by decide, lc_0 hR hI hv b1 b2 hn⟩, fun _ => ⟨by decide, lc_1 hR hI hv b1 b2 hn⟩, fun _ => ⟨by decide, lc_2 hR hI hv b1 b2 hn⟩, fun _ => ⟨by decide, lc_3 hR hI hv b1 b2 hn⟩, fun _ => ⟨by decide, lc_4 hR hI hv b1 b2 hn⟩, fun _ => ⟨by decide, lc_5 hR hI hv b1 b2 hn⟩, fun _ => ⟨by decide, lc_6 hR hI hv b1 b2 hn⟩, fun _ => ⟨by decide, lc_7 hR hI hv b1 b2 hn⟩, fun _ => ⟨by decide, lc_8 hR hI hv b1 b2 hn⟩, fun _ => ⟨by decide, lc_9 hR hI hv b1 b2 hn⟩, fun _ => ⟨by decide, lc_10 hR hI hv b1 b2 hn⟩, fun _ => ⟨by decide, lc_11 hR hI hv b1 b2 hn⟩, fun _ => ⟨by decide, lc_12 hR hI hv b1 b2 hn⟩, fun _ => ⟨by decide, lc_13 hR hI hv b1 b2 hn⟩, fun _ => ⟨by decide, lc_14 hR hI hv b1 b2 hn⟩, fun _ => ⟨by decide, lc_15 hR hI hv b1 b2 hn⟩, fun _ => ⟨by decide, lc_16 hR hI hv b1 b2 hn⟩, fun _ => ⟨by decide, lc_17 hR hI hv b1 b2 hn⟩, fun _ => ⟨by decide, lc_18 hR hI hv b1 b2 hn⟩, fun _ => ⟨by decide, lc_19 hR hI hv b1 b2 hn⟩, fun _ => ⟨by decide, lc_20 hR hI hv b1 b2 hn⟩, fun _ => ⟨by decide, lc_21 hR hI hv b1 b2 hn⟩, fun _ => ⟨by decide, lc_22 hR hI hv b1 b2 hn⟩, fun _ => ⟨by decide, lc_23 hR hI hv b1 b2 hn⟩, fun _ => ⟨by decide, lc_24 hR hI hv b1 b2 hn⟩, fun _ => ⟨by decide, lc_25 hR hI hv b1 b2 hn⟩, fun _ => ⟨by decide, lc_26 hR hI hv b1 b2 hn⟩, fun _ => ⟨by decide, lc_27 hR hI hv b1 b2 hn⟩, fun _ => ⟨by decide, lc_28 hR hI hv b1 b2 hn⟩, fun _ => ⟨by decide, lc_29 hR hI hv b1 b2 hn⟩, fun _ => ⟨by decide, lc_30 hR hI hv b1 b2 hn⟩, fun _ => ⟨by decide, lc_31 hR hI hv b1 b2 hn⟩, fun _ => ⟨by decide, lc_32 hR hI hv b1 b2 hn⟩, fun _ => ⟨by decide, lc_33 hR hI hv b1 b2 hn⟩, trivial⟩
theorem em_rc : ∀ q, q ∈ em_tr → 1 ≤ q.1 ∧ q.1 < 52 ∧ rc_t.getD (q.1 - 1) (0, 0, 0) = (q.2.1, q.2.2.1, q.2.2.2) := by decide +kernel
theorem pure : ab_Pure := by
  intro L xs hL R hR0
  have hR : ab_Cl 1000 (ab_Gam 1000) 13 i_law (L + 1) xs (fun _ r => r = some (.int 1)) (fun _ _ => False) R := hR0
  obtain ⟨T0, hT0⟩ : ∃ T0 : Tx, T0 = (fun _ => 0, fun _ => 0, fun _ => [], fun _ _ => 0, fun _ _ => none, fun _ => [], 0) := ⟨_, rfl⟩
  have k0 : ∀ a, tK T0 a = 0 := fun a => by rw [hT0]; rfl
  have z0 : tZ T0 = 0 := by rw [hT0]; rfl
  have r0 : Rep2 (fun _ => False) ab_G0 T0 := by
    refine ⟨z0.symm, fun _ h => h.elim, fun a h => absurd (k0 a) h, fun a => ⟨fun h => ?_, fun h => ?_, fun h => ?_, fun h => ?_, fun h => ?_⟩, fun a a' b h => ?_, fun a a' b h => ?_⟩
    · rw [k0] at h; exact absurd h.1 (by decide)
    all_goals (rw [k0] at h; exact absurd h (by decide))
  change R 0 [some (.float 0), none, none, none, none, none, none] [] ab_G0 601024 7293034
  refine uh_new (ci := 11) 12 r0 (by decide) hR dL_law_0 (by decide +kernel) (by decide) (Nat.le_of_ble_eq_true rfl) (Nat.le_of_ble_eq_true rfl) (fun G1 T1 e1 r1 f1 => ?_)
  rw [z0]
  have k1 : tK T1 0 = 12 := by rw [e1, ← z0]; exact tK_new
  have z1 : 0 + 1 = tZ T1 := by rw [e1]; show 0 + 1 = tZ T0 + 1; rw [z0]
  have v1 : ∀ f, tV T1 0 f = 0 := fun f => by
    rw [e1, ← z0]
    exact congrFun (if_pos rfl) f
  refine us_dup hR dL_law_3 rfl ?_
  obtain ⟨T2, e2, s2, z2⟩ : ∃ T2, h_11000 0 T1 = some T2 ∧ SINV 0 T2 (fun _ _ => 0) ∧ tZ T2 = 74 := by
    obtain ⟨T2, a1, a2, _⟩ := SInv.ini (x := 0) (m := fun _ _ => 0) k1 z1 v1 (fun _ _ => rfl)
    obtain ⟨T3, b1, b2, _⟩ := h11000_e (x := 0) k1 z1
    rw [a1] at b1
    cases b1
    exact ⟨T2, a1, a2, b2⟩
  refine us_callI hR dL_law_4 (y := 11000) (by decide +kernel) (by decide) (J := i11000) rfl rfl rfl rfl (H_sch r1 k1) rfl (Nat.le_of_ble_eq_true rfl) (Nat.le_of_ble_eq_true rfl) (Nat.le_of_ble_eq_true rfl) ?_
  refine sh_11000 (d := 958) r1 e2 (fun G2 r2 f2 => ?_)
  have g2 : gZ G2 = 74 := r2.1.trans z2
  refine us_astore_n hR dL_law_7 (Nat.le_of_ble_eq_true rfl) ?_
  refine us_new (ci := 12) hR dL_law_8 (by decide +kernel) (by decide) (Nat.le_of_ble_eq_true rfl) (Nat.le_of_ble_eq_true rfl) ?_
  refine us_dup hR dL_law_11 rfl ?_
  rw [g2]
  obtain ⟨G3, hG3⟩ : ∃ G3, G3 = gNew G2 12 0 := ⟨_, rfl⟩
  rw [← hG3]
  have c3 : ∀ a, a < 74 → cSame G2 G3 a := fun a ha => by
    rw [hG3]
    refine ⟨u1_n _ _ ?_, u1_n _ _ ?_, u1_n _ _ ?_, u1_n _ _ ?_⟩ <;> (rw [g2]; omega)
  have k3 : gK G3 74 = 12 := by rw [hG3, ← g2]; exact u1_s _ _ _
  have z3 : gZ G3 = 75 := by rw [hG3]; show gZ G2 + 1 = 75; rw [g2]
  have i3 : gI G3 74 = fun _ => 0 := by rw [hG3, ← g2]; exact u1_s _ _ _
  refine us_callI hR dL_law_12 (y := 12000) (a := 74) (by decide +kernel) (by decide) (J := i12000) rfl rfl rfl rfl k3 rfl (Nat.le_of_ble_eq_true rfl) (Nat.le_of_ble_eq_true rfl) (Nat.le_of_ble_eq_true rfl) ?_
  refine sp_12000 (d := 999) k3 (by omega) (fun G4 hq => ?_)
  obtain ⟨q1, q2, q3, q4, q5⟩ := hq
  rw [z3] at q1 q4 q5
  have q1 : gZ G4 = 126 := q1
  refine us_astore_n hR dL_law_15 (Nat.le_of_ble_eq_true rfl) ?_
  refine us_iconstC hR dL_law_16 (c := 1) (by decide) ?_
  refine us_newa17 hR dL_law_17 (by decide) (by decide) (Nat.le_of_ble_eq_true rfl) (Nat.le_of_ble_eq_true rfl) ?_
  rw [q1]
  refine us_astore_n hR dL_law_19 (Nat.le_of_ble_eq_true rfl) ?_
  refine us_iconstC hR dL_law_20 (c := 0) (by decide) ?_
  refine us_istore hR dL_law_21 (Nat.le_of_ble_eq_true rfl) ?_
  obtain ⟨G5, hG5⟩ : ∃ G5, G5 = gNew G4 17 1 := ⟨_, rfl⟩
  change R _ _ _ (gNew G4 17 1) _ _
  rw [← hG5]
  have o5 : ∀ a, a < 126 → cSame G4 G5 a := fun a ha => by
    rw [hG5]
    refine ⟨u1_n _ _ ?_, u1_n _ _ ?_, u1_n _ _ ?_, u1_n _ _ ?_⟩ <;> (rw [q1]; omega)
  have z5 : gZ G5 = 127 := by rw [hG5]; show gZ G4 + 1 = 127; rw [q1]
  have c5 : ∀ a, a < 74 → cSame G2 G5 a := fun a ha => by
    have h1 := c3 a ha
    have h2 := q5 a (by omega) (by omega)
    have h3 := o5 a (by omega)
    exact ⟨h3.1.trans (h2.1.trans h1.1), h3.2.1.trans (h2.2.1.trans h1.2.1), h3.2.2.1.trans (h2.2.2.1.trans h1.2.2.1), h3.2.2.2.trans (h2.2.2.2.trans h1.2.2.2)⟩
  have hI : LIw G5 (fun _ _ => 0) := by
    refine ⟨tz T2 (gZ G5), r2.ad (by omega) (fun a ha => c5 a (by omega)) (fun a ha => by rw [z5]; exact ha.2) (fun a ha h => by have := h.1; omega), s2.tz (by omega), ⟨fun i j _ _ h => by unfold lad at h; omega, (o5 74 (by decide)).1.trans q2, fun q hq => ?_⟩, fun k hk => ?_, ?_, ?_⟩
    · obtain ⟨t1, t2, t3⟩ := em_rc q hq
      obtain ⟨p1, p2, p3, p4⟩ := q4 (q.1 - 1) (by omega)
      rw [t3] at p1 p2 p3
      have e : 75 + (q.1 - 1) = lad q.1 := by unfold lad; omega
      rw [e] at p1 p2 p3
      have h3 := o5 (lad q.1) (by unfold lad; omega)
      exact ⟨by rw [show lad 0 = 74 from rfl, (o5 74 (by decide)).2.2.2]; exact p1, h3.1.trans p2, h3.2.1.trans p3, t2⟩
    · rw [(o5 (lad k) (by unfold lad; omega)).2.2.1]
      by_cases e : k = 0
      · rw [e]
        exact q3.trans i3
      · obtain ⟨p1, p2, p3, p4⟩ := q4 (k - 1) (by omega)
        rw [show lad k = 75 + (k - 1) by unfold lad; omega]
        exact funext p4
    · rw [hG5, ← q1]; exact u1_s _ _ _
    · rw [hG5, ← q1]; exact u1_s _ _ _
  exact law_L hL hR 512 0 G5 _ none none _ _ (by decide) hI (Nat.le_of_ble_eq_true rfl) (Nat.le_of_ble_eq_true rfl)
end PUR
