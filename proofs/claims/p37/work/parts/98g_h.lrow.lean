/-! the law: the school -/
noncomputable section
set_option maxHeartbeats 2000000 in
set_option maxRecDepth 8000 in
theorem n13041_L576 {d : Nat} {P : ab_Pq} {X : ab_Xq} {o : Lx × Int32} {R : ab_K} (hR : ab_Cl (d + 917) (ab_Gam (d + 917)) (mCi i13041) i13041 0 (fun _ => 0) P X R) (h : ∀ G1, (o.2 = 0 ∨ o.2 = 1) → LRep G1 o.1 → P G1 (some (.int o.2))) : ∀ (n : Nat) (l0 : Nat) (l1 : Nat) (l2 : Nat) (l3 : Nat) (l4 : Nat) (l5 : Nat) (l6 : Nat) (l7 : Int32) (l8 : Int32) (l9 : Int32) (l10 : Int32) (l11 : Int32) (l12 : Int32) (l13 : Int32) (l14 : Nat) (l15 : Int32) (l16 : Int32)  (S : Lx) (Ga : ab_G) (bc bs : Nat) (h2 : LRep Ga S) (ho : l_13041_L576 n l0 l1 l2 l3 l4 l5 l6 l7 l8 l9 l10 l11 l12 l13 l14 l15 l16 bc bs S = some o), R 576 [some (.ref l0), some (.ref l1), some (.ref l2), some (.ref l3), some (.ref l4), some (.ref l5), some (.ref l6), some (.int l7), some (.int l8), some (.int l9), some (.int l10), some (.int l11), some (.int l12), some (.int l13), some (.ref l14), some (.int l15), some (.int l16), none] [] Ga bc bs := by
  intro n
  induction n with
  | zero => intro l0 l1 l2 l3 l4 l5 l6 l7 l8 l9 l10 l11 l12 l13 l14 l15 l16  S Ga bc bs h2 ho; exact absurd ho (by rw [l_13041_L576]; intro hc; cases hc)
  | succ n576 ih576 =>
    intro l0 l1 l2 l3 l4 l5 l6 l7 l8 l9 l10 l11 l12 l13 l14 l15 l16  S Ga bc bs h2 ho
    rw [l_13041_L576] at ho
    refine us_iload hR dL_schools_576 rfl ?_
    refine us_aload hR dL_schools_578 rfl ?_
    refine us_iconstC hR dL_schools_580 (c := 1) (by decide) ?_
    have hg := gd_c ho
    rw [gd_e hg] at ho
    refine ul_iaload h2 hg hR dL_schools_581 ?_
    refine us_icmp_ge hR dL_schools_582 621 (by decide) (fun c1 => ?_) (fun c1 => ?_)
    · rw [if_pos c1] at ho
      refine us_iload hR dL_schools_621 rfl ?_
      refine us_iload hR dL_schools_623 rfl ?_
      refine us_icmp_ne hR dL_schools_625 645 (by decide) (fun c2 => ?_) (fun c2 => ?_)
      · rw [if_neg c2] at ho
        refine us_iconstC hR dL_schools_645 (c := 0) (by decide) ?_
        refine us_iret hR dL_schools_646 rfl (nar01 (Or.inl rfl)) ?_
        cases ho
        exact h _ (Or.inl rfl) h2
      · rw [if_pos c2] at ho
        refine us_aload_n hR dL_schools_628 rfl ?_
        refine us_iload hR dL_schools_629 rfl ?_
        refine us_iload hR dL_schools_631 rfl ?_
        have hg := gd_c ho
        rw [gd_e hg] at ho
        have hme := hg
        have hb := gd_c ho
        rw [gd_e hb] at ho
        refine us_callSc 4 40 hR dL_schools_633 (y := 13012) (by decide +kernel) (by decide) (J := i13012) rfl rfl rfl rfl (rest := _) (Nat.le_of_ble_eq_true rfl) rfl rfl hb.1 hb.2 ?_
        obtain ⟨q3, hs3⟩ := bO_ex ho
        obtain ⟨T3, r3⟩ := q3
        replace ho := bO_go ho hs3
        refine sh_13012 h2.1 hme hs3 (fun G3 h33 hF3 => ?_)
        have h23 := h2.cls h33 hF3
        obtain ⟨S3, hS3⟩ : ∃ Sz, Sz = lT S T3 := ⟨_, rfl⟩
        rw [bS_eq, ← hS3] at ho
        rw [← hS3] at h23
        refine us_ldc hR dL_schools_636 (v := (-1000003)) (by decide +kernel) ?_
        refine us_icmp_ne hR dL_schools_638 645 (by decide) (fun c4 => ?_) (fun c4 => ?_)
        · rw [if_neg c4] at ho
          refine us_iconstC hR dL_schools_645 (c := 0) (by decide) ?_
          refine us_iret hR dL_schools_646 rfl (nar01 (Or.inl rfl)) ?_
          cases ho
          exact h _ (Or.inl rfl) h23
        · rw [if_pos c4] at ho
          refine us_iconstC hR dL_schools_641 (c := 1) (by decide) ?_
          refine us_goto hR dL_schools_642 646 (by decide) ?_
          refine us_iret hR dL_schools_646 rfl (nar01 (Or.inr rfl)) ?_
          cases ho
          exact h _ (Or.inr rfl) h23
    · rw [if_neg c1] at ho
      refine us_iload hR dL_schools_585 rfl ?_
      refine us_aload_n hR dL_schools_587 rfl ?_
      refine us_aload_n hR dL_schools_588 rfl ?_
      refine us_aload hR dL_schools_589 rfl ?_
      refine us_aload hR dL_schools_591 rfl ?_
      refine us_iload hR dL_schools_593 rfl ?_
      refine us_iconstC hR dL_schools_595 (c := 0) (by decide) ?_
      have hb := gd_c ho
      rw [gd_e hb] at ho
      refine us_callSc 18 108 hR dL_schools_596 (y := 13037) (by decide +kernel) (by decide) (J := i13037) rfl rfl rfl rfl (rest := _) (Nat.le_of_ble_eq_true rfl) rfl rfl hb.1 hb.2 ?_
      obtain ⟨r5, hr5⟩ := bP_ex ho
      replace ho := bP_go ho hr5
      refine sl_13037 h2 hr5 ?_
      refine us_aload hR dL_schools_599 rfl ?_
      refine us_iload hR dL_schools_601 rfl ?_
      have hg := gd_c ho
      rw [gd_e hg] at ho
      refine ul_iaload h2 hg hR dL_schools_603 ?_
      refine us_icmp_eq hR dL_schools_604 611 (by decide) (fun c6 => ?_) (fun c6 => ?_)
      · rw [if_pos c6] at ho
        refine us_iconstC hR dL_schools_611 (c := 0) (by decide) ?_
        refine us_iadd hR dL_schools_612 ?_
        refine us_istore hR dL_schools_613 (Nat.le_of_ble_eq_true rfl) ?_
        refine us_iincC hR dL_schools_615 rfl (Nat.le_of_ble_eq_true rfl) (c := 1) (by decide) ?_
        change R _ [some (.ref l0), some (.ref l1), some (.ref l2), some (.ref l3), some (.ref l4), some (.ref l5), some (.ref l6), some (.int l7), some (.int l8), some (.int l9), some (.int l10), some (.int l11), some (.int l12), some (.int (l13 + 0)), some (.ref l14), some (.int l15), some (.int (l16 + 1)), none] _ _ _ _
        refine us_goto hR dL_schools_618 576 (by decide) ?_
        exact ih576 l0 l1 l2 l3 l4 l5 l6 l7 l8 l9 l10 l11 l12 (l13 + 0) l14 l15 (l16 + 1)  S Ga _ _ h2 ho
      · rw [if_neg c6] at ho
        refine us_iconstC hR dL_schools_607 (c := 1) (by decide) ?_
        refine us_goto hR dL_schools_608 612 (by decide) ?_
        refine us_iadd hR dL_schools_612 ?_
        refine us_istore hR dL_schools_613 (Nat.le_of_ble_eq_true rfl) ?_
        refine us_iincC hR dL_schools_615 rfl (Nat.le_of_ble_eq_true rfl) (c := 1) (by decide) ?_
        change R _ [some (.ref l0), some (.ref l1), some (.ref l2), some (.ref l3), some (.ref l4), some (.ref l5), some (.ref l6), some (.int l7), some (.int l8), some (.int l9), some (.int l10), some (.int l11), some (.int l12), some (.int (l13 + 1)), some (.ref l14), some (.int l15), some (.int (l16 + 1)), none] _ _ _ _
        refine us_goto hR dL_schools_618 576 (by decide) ?_
        exact ih576 l0 l1 l2 l3 l4 l5 l6 l7 l8 l9 l10 l11 l12 (l13 + 1) l14 l15 (l16 + 1)  S Ga _ _ h2 ho
set_option maxHeartbeats 2000000 in
set_option maxRecDepth 8000 in
theorem n13041_J555 {d : Nat} {P : ab_Pq} {X : ab_Xq} {o : Lx × Int32} {R : ab_K} (hR : ab_Cl (d + 917) (ab_Gam (d + 917)) (mCi i13041) i13041 0 (fun _ => 0) P X R) (h : ∀ G1, (o.2 = 0 ∨ o.2 = 1) → LRep G1 o.1 → P G1 (some (.int o.2))) : ∀ (l0 : Nat) (l1 : Nat) (l2 : Nat) (l3 : Nat) (l4 : Nat) (l5 : Nat) (l6 : Nat) (l7 : Int32) (l8 : Int32) (l9 : Int32) (l10 : Int32) (l11 : Int32) (l12 : Int32) (l13 : Int32) (l14 : Nat) (l15 : Int32) (k0 : Int32) (k1 : Int32)  (S : Lx) (Ga : ab_G) (bc bs : Nat) (h2 : LRep Ga S) (ho : l_13041_J555 l0 l1 l2 l3 l4 l5 l6 l7 l8 l9 l10 l11 l12 l13 l14 l15 k0 k1 bc bs S = some o), R 555 [some (.ref l0), some (.ref l1), some (.ref l2), some (.ref l3), some (.ref l4), some (.ref l5), some (.ref l6), some (.int l7), some (.int l8), some (.int l9), some (.int l10), some (.int l11), some (.int l12), some (.int l13), some (.ref l14), some (.int l15), none, none] [.int k0, .int k1] Ga bc bs := by
  intro l0 l1 l2 l3 l4 l5 l6 l7 l8 l9 l10 l11 l12 l13 l14 l15 k0 k1  S Ga bc bs h2 ho
  unfold l_13041_J555 at ho
  refine us_icmp_ne hR dL_schools_555 562 (by decide) (fun c7 => ?_) (fun c7 => ?_)
  · rw [if_neg c7] at ho
    refine us_iconstC hR dL_schools_562 (c := 0) (by decide) ?_
    refine us_iret hR dL_schools_563 rfl (nar01 (Or.inl rfl)) ?_
    cases ho
    exact h _ (Or.inl rfl) h2
  · rw [if_pos c7] at ho
    refine us_iconstC hR dL_schools_558 (c := 1) (by decide) ?_
    refine us_goto hR dL_schools_559 563 (by decide) ?_
    refine us_iret hR dL_schools_563 rfl (nar01 (Or.inr rfl)) ?_
    cases ho
    exact h _ (Or.inr rfl) h2
set_option maxHeartbeats 2000000 in
set_option maxRecDepth 8000 in
theorem n13041_J536 {d : Nat} {P : ab_Pq} {X : ab_Xq} {o : Lx × Int32} {R : ab_K} (hR : ab_Cl (d + 917) (ab_Gam (d + 917)) (mCi i13041) i13041 0 (fun _ => 0) P X R) (h : ∀ G1, (o.2 = 0 ∨ o.2 = 1) → LRep G1 o.1 → P G1 (some (.int o.2))) : ∀ (l0 : Nat) (l1 : Nat) (l2 : Nat) (l3 : Nat) (l4 : Nat) (l5 : Nat) (l6 : Nat) (l7 : Int32) (l8 : Int32) (l9 : Int32) (l10 : Int32) (l11 : Int32) (l12 : Int32) (l13 : Int32) (l14 : Nat) (l15 : Int32)  (S : Lx) (Ga : ab_G) (bc bs : Nat) (h2 : LRep Ga S) (ho : l_13041_J536 l0 l1 l2 l3 l4 l5 l6 l7 l8 l9 l10 l11 l12 l13 l14 l15 bc bs S = some o), R 536 [some (.ref l0), some (.ref l1), some (.ref l2), some (.ref l3), some (.ref l4), some (.ref l5), some (.ref l6), some (.int l7), some (.int l8), some (.int l9), some (.int l10), some (.int l11), some (.int l12), some (.int l13), some (.ref l14), some (.int l15), none, none] [] Ga bc bs := by
  have h13041_J555 := n13041_J555 hR h 
  intro l0 l1 l2 l3 l4 l5 l6 l7 l8 l9 l10 l11 l12 l13 l14 l15  S Ga bc bs h2 ho
  unfold l_13041_J536 at ho
  refine us_iload hR dL_schools_536 rfl ?_
  refine us_aload hR dL_schools_538 rfl ?_
  refine us_iconstC hR dL_schools_540 (c := 4) (by decide) ?_
  refine us_iload hR dL_schools_541 rfl ?_
  refine us_iadd hR dL_schools_543 ?_
  have hg := gd_c ho
  rw [gd_e hg] at ho
  refine ul_iaload h2 hg hR dL_schools_544 ?_
  refine us_if_ne hR dL_schools_545 553 (by decide) (fun c8 => ?_) (fun c8 => ?_)
  · rw [if_neg c8] at ho
    refine us_ldc hR dL_schools_553 (v := (-1000003)) (by decide +kernel) ?_
    exact h13041_J555 l0 l1 l2 l3 l4 l5 l6 l7 l8 l9 l10 l11 l12 l13 l14 l15 (-1000003) l15  S Ga _ _ h2 ho
  · rw [if_pos c8] at ho
    refine us_ldc hR dL_schools_548 (v := (-1000001)) (by decide +kernel) ?_
    refine us_goto hR dL_schools_550 555 (by decide) ?_
    exact h13041_J555 l0 l1 l2 l3 l4 l5 l6 l7 l8 l9 l10 l11 l12 l13 l14 l15 (-1000001) l15  S Ga _ _ h2 ho
set_option maxHeartbeats 2000000 in
set_option maxRecDepth 8000 in
theorem n13041_L475 {d : Nat} {P : ab_Pq} {X : ab_Xq} {o : Lx × Int32} {R : ab_K} (hR : ab_Cl (d + 917) (ab_Gam (d + 917)) (mCi i13041) i13041 0 (fun _ => 0) P X R) (h : ∀ G1, (o.2 = 0 ∨ o.2 = 1) → LRep G1 o.1 → P G1 (some (.int o.2))) : ∀ (n : Nat) (l0 : Nat) (l1 : Nat) (l2 : Nat) (l3 : Nat) (l4 : Nat) (l5 : Nat) (l6 : Nat) (l7 : Int32) (l8 : Int32) (l9 : Int32) (l10 : Int32) (l11 : Int32) (l12 : Int32) (l13 : Int32) (l14 : Nat) (l15 : Int32)  (S : Lx) (Ga : ab_G) (bc bs : Nat) (h2 : LRep Ga S) (ho : l_13041_L475 n l0 l1 l2 l3 l4 l5 l6 l7 l8 l9 l10 l11 l12 l13 l14 l15 bc bs S = some o), R 475 [some (.ref l0), some (.ref l1), some (.ref l2), some (.ref l3), some (.ref l4), some (.ref l5), some (.ref l6), some (.int l7), some (.int l8), some (.int l9), some (.int l10), some (.int l11), some (.int l12), some (.int l13), some (.ref l14), some (.int l15), none, none] [] Ga bc bs := by
  have h13041_L576 := n13041_L576 hR h 
  have h13041_J536 := n13041_J536 hR h 
  intro n
  induction n with
  | zero => intro l0 l1 l2 l3 l4 l5 l6 l7 l8 l9 l10 l11 l12 l13 l14 l15  S Ga bc bs h2 ho; exact absurd ho (by rw [l_13041_L475]; intro hc; cases hc)
  | succ n475 ih475 =>
    intro l0 l1 l2 l3 l4 l5 l6 l7 l8 l9 l10 l11 l12 l13 l14 l15  S Ga bc bs h2 ho
    rw [l_13041_L475] at ho
    refine us_iload hR dL_schools_475 rfl ?_
    refine us_aload hR dL_schools_477 rfl ?_
    refine us_iconstC hR dL_schools_479 (c := 1) (by decide) ?_
    have hg := gd_c ho
    rw [gd_e hg] at ho
    refine ul_iaload h2 hg hR dL_schools_480 ?_
    refine us_icmp_ge hR dL_schools_481 507 (by decide) (fun c9 => ?_) (fun c9 => ?_)
    · rw [if_pos c9] at ho
      refine us_aload_n hR dL_schools_507 rfl ?_
      refine us_iload hR dL_schools_508 rfl ?_
      refine us_iload hR dL_schools_510 rfl ?_
      have hg := gd_c ho
      rw [gd_e hg] at ho
      have hme := hg
      have hb := gd_c ho
      rw [gd_e hb] at ho
      refine us_callSc 4 40 hR dL_schools_512 (y := 13012) (by decide +kernel) (by decide) (J := i13012) rfl rfl rfl rfl (rest := _) (Nat.le_of_ble_eq_true rfl) rfl rfl hb.1 hb.2 ?_
      obtain ⟨q10, hs10⟩ := bO_ex ho
      obtain ⟨T10, r10⟩ := q10
      replace ho := bO_go ho hs10
      refine sh_13012 h2.1 hme hs10 (fun G10 h310 hF10 => ?_)
      have h210 := h2.cls h310 hF10
      obtain ⟨S10, hS10⟩ : ∃ Sz, Sz = lT S T10 := ⟨_, rfl⟩
      rw [bS_eq, ← hS10] at ho
      rw [← hS10] at h210
      refine us_istore hR dL_schools_515 (Nat.le_of_ble_eq_true rfl) ?_
      refine us_aload hR dL_schools_517 rfl ?_
      refine us_iconstC hR dL_schools_519 (c := 4) (by decide) ?_
      refine us_iload hR dL_schools_520 rfl ?_
      refine us_iadd hR dL_schools_522 ?_
      have hg := gd_c ho
      rw [gd_e hg] at ho
      refine ul_iaload h210 hg hR dL_schools_523 ?_
      refine us_if_eq hR dL_schools_524 536 (by decide) (fun c11 => ?_) (fun c11 => ?_)
      · rw [if_pos c11] at ho
        exact h13041_J536 l0 l1 l2 l3 l4 l5 l6 l7 l8 l9 l10 l11 l12 l13 l14 r10  S10 G10 _ _ h210 ho
      · rw [if_neg c11] at ho
        refine us_aload_n hR dL_schools_527 rfl ?_
        refine us_iload hR dL_schools_528 rfl ?_
        have hg := gd_c ho
        rw [gd_e hg] at ho
        refine ul_iaload h210 hg hR dL_schools_530 ?_
        refine us_bipushC hR dL_schools_531 (c := 15) (by decide) ?_
        refine us_icmp_le hR dL_schools_533 564 (by decide) (fun c12 => ?_) (fun c12 => ?_)
        · rw [if_pos c12] at ho
          refine us_aload_n hR dL_schools_564 rfl ?_
          refine us_iload hR dL_schools_565 rfl ?_
          refine us_dup2 hR dL_schools_567 rfl rfl ?_
          have hg := gd_c ho
          rw [gd_e hg] at ho
          refine ul_iaload h210 hg hR dL_schools_568 ?_
          refine us_bipushC hR dL_schools_569 (c := 16) (by decide) ?_
          refine us_iadd hR dL_schools_571 ?_
          have hg := gd_c ho
          rw [gd_e hg] at ho
          refine ul_iastore h210 hg hR dL_schools_572 (fun G13 S13 hs13 h213 => ?_)
          rw [← hs13, bS_eq] at ho
          refine us_iconstC hR dL_schools_573 (c := 0) (by decide) ?_
          refine us_istore hR dL_schools_574 (Nat.le_of_ble_eq_true rfl) ?_
          exact h13041_L576 _ l0 l1 l2 l3 l4 l5 l6 l7 l8 l9 l10 l11 l12 l13 l14 r10 0  S13 G13 _ _ h213 ho
        · rw [if_neg c12] at ho
          exact h13041_J536 l0 l1 l2 l3 l4 l5 l6 l7 l8 l9 l10 l11 l12 l13 l14 r10  S10 G10 _ _ h210 ho
    · rw [if_neg c9] at ho
      refine us_aload hR dL_schools_484 rfl ?_
      refine us_iload hR dL_schools_486 rfl ?_
      refine us_aload_n hR dL_schools_488 rfl ?_
      refine us_aload_n hR dL_schools_489 rfl ?_
      refine us_aload hR dL_schools_490 rfl ?_
      refine us_aload hR dL_schools_492 rfl ?_
      refine us_iload hR dL_schools_494 rfl ?_
      refine us_iconstC hR dL_schools_496 (c := 0) (by decide) ?_
      have hb := gd_c ho
      rw [gd_e hb] at ho
      refine us_callSc 18 108 hR dL_schools_497 (y := 13037) (by decide +kernel) (by decide) (J := i13037) rfl rfl rfl rfl (rest := _) (Nat.le_of_ble_eq_true rfl) rfl rfl hb.1 hb.2 ?_
      obtain ⟨r14, hr14⟩ := bP_ex ho
      replace ho := bP_go ho hr14
      refine sl_13037 h2 hr14 ?_
      have hg := gd_c ho
      rw [gd_e hg] at ho
      refine ul_iastore h2 hg hR dL_schools_500 (fun G15 S15 hs15 h215 => ?_)
      rw [← hs15, bS_eq] at ho
      refine us_iincC hR dL_schools_501 rfl (Nat.le_of_ble_eq_true rfl) (c := 1) (by decide) ?_
      refine us_goto hR dL_schools_504 475 (by decide) ?_
      exact ih475 l0 l1 l2 l3 l4 l5 l6 l7 l8 l9 l10 l11 l12 l13 l14 (l15 + 1)  S15 G15 _ _ h215 ho
set_option maxHeartbeats 2000000 in
set_option maxRecDepth 8000 in
theorem n13041_J451 {d : Nat} {P : ab_Pq} {X : ab_Xq} {o : Lx × Int32} {R : ab_K} (hR : ab_Cl (d + 917) (ab_Gam (d + 917)) (mCi i13041) i13041 0 (fun _ => 0) P X R) (h : ∀ G1, (o.2 = 0 ∨ o.2 = 1) → LRep G1 o.1 → P G1 (some (.int o.2))) : ∀ (l0 : Nat) (l1 : Nat) (l2 : Nat) (l3 : Nat) (l4 : Nat) (l5 : Nat) (l6 : Nat) (l7 : Int32) (l8 : Int32) (l9 : Int32) (l10 : Int32) (k0 : Int32)  (S : Lx) (Ga : ab_G) (bc bs : Nat) (h2 : LRep Ga S) (ho : l_13041_J451 l0 l1 l2 l3 l4 l5 l6 l7 l8 l9 l10 k0 bc bs S = some o), R 451 [some (.ref l0), some (.ref l1), some (.ref l2), some (.ref l3), some (.ref l4), some (.ref l5), some (.ref l6), some (.int l7), some (.int l8), some (.int l9), some (.int l10), none, none, none, none, none, none, none] [.int k0] Ga bc bs := by
  have h13041_L475 := n13041_L475 hR h 
  intro l0 l1 l2 l3 l4 l5 l6 l7 l8 l9 l10 k0  S Ga bc bs h2 ho
  unfold l_13041_J451 at ho
  refine us_istore hR dL_schools_451 (Nat.le_of_ble_eq_true rfl) ?_
  refine us_bipushC hR dL_schools_453 (c := 8) (by decide) ?_
  refine us_iload hR dL_schools_455 rfl ?_
  refine us_imul hR dL_schools_457 ?_
  refine us_iload hR dL_schools_458 rfl ?_
  refine us_iadd hR dL_schools_460 ?_
  refine us_istore hR dL_schools_461 (Nat.le_of_ble_eq_true rfl) ?_
  change R _ [some (.ref l0), some (.ref l1), some (.ref l2), some (.ref l3), some (.ref l4), some (.ref l5), some (.ref l6), some (.int l7), some (.int l8), some (.int l9), some (.int l10), some (.int k0), some (.int ((8 * l10) + k0)), none, none, none, none, none] _ _ _ _
  refine us_iconstC hR dL_schools_463 (c := 0) (by decide) ?_
  refine us_istore hR dL_schools_464 (Nat.le_of_ble_eq_true rfl) ?_
  refine us_bipushC hR dL_schools_466 (c := 30) (by decide) ?_
  have hb := gd_c ho
  rw [gd_e hb] at ho
  refine ul_newa h2 (n := 30) (by decide) (by decide) (by decide) (by decide) hR dL_schools_468 hb.1 hb.2 (fun G16 S16 hs16 h216 => ?_)
  rw [← hs16, bS_eq] at ho
  refine us_astore hR dL_schools_470 (Nat.le_of_ble_eq_true rfl) ?_
  change R _ [some (.ref l0), some (.ref l1), some (.ref l2), some (.ref l3), some (.ref l4), some (.ref l5), some (.ref l6), some (.int l7), some (.int l8), some (.int l9), some (.int l10), some (.int k0), some (.int ((8 * l10) + k0)), some (.int 0), some (.ref (tZ S.1)), none, none, none] _ _ _ _
  refine us_iconstC hR dL_schools_472 (c := 0) (by decide) ?_
  refine us_istore hR dL_schools_473 (Nat.le_of_ble_eq_true rfl) ?_
  exact h13041_L475 _ l0 l1 l2 l3 l4 l5 l6 l7 l8 l9 l10 k0 ((8 * l10) + k0) 0 (tZ S.1) 0  S16 G16 _ _ h216 ho
set_option maxHeartbeats 2000000 in
set_option maxRecDepth 8000 in
theorem n13041_J122 {d : Nat} {P : ab_Pq} {X : ab_Xq} {o : Lx × Int32} {R : ab_K} (hR : ab_Cl (d + 917) (ab_Gam (d + 917)) (mCi i13041) i13041 0 (fun _ => 0) P X R) (h : ∀ G1, (o.2 = 0 ∨ o.2 = 1) → LRep G1 o.1 → P G1 (some (.int o.2))) : ∀ (l0 : Nat) (l1 : Nat) (l2 : Nat) (l3 : Nat) (l4 : Nat) (l5 : Nat) (l6 : Nat) (l7 : Int32) (l8 : Int32) (l9 : Int32) (l10 : Int32) (l11 : Int32) (l12 : Int32) (l13 : Int32) (k0 : Int32) (k1 : Int32)  (S : Lx) (Ga : ab_G) (bc bs : Nat) (h2 : LRep Ga S) (ho : l_13041_J122 l0 l1 l2 l3 l4 l5 l6 l7 l8 l9 l10 l11 l12 l13 k0 k1 bc bs S = some o), R 122 [some (.ref l0), some (.ref l1), some (.ref l2), some (.ref l3), some (.ref l4), some (.ref l5), some (.ref l6), some (.int l7), some (.int l8), some (.int l9), some (.int l10), some (.int l11), some (.int l12), some (.int l13), none, none, none, none] [.int k0, .int k1] Ga bc bs := by
  intro l0 l1 l2 l3 l4 l5 l6 l7 l8 l9 l10 l11 l12 l13 k0 k1  S Ga bc bs h2 ho
  unfold l_13041_J122 at ho
  refine us_icmp_ne hR dL_schools_122 157 (by decide) (fun c17 => ?_) (fun c17 => ?_)
  · rw [if_neg c17] at ho
    refine us_iconstC hR dL_schools_157 (c := 0) (by decide) ?_
    refine us_iret hR dL_schools_158 rfl (nar01 (Or.inl rfl)) ?_
    cases ho
    exact h _ (Or.inl rfl) h2
  · rw [if_pos c17] at ho
    refine us_aload_n hR dL_schools_125 rfl ?_
    refine us_iconstC hR dL_schools_126 (c := 0) (by decide) ?_
    refine us_iload hR dL_schools_127 rfl ?_
    have hg := gd_c ho
    rw [gd_e hg] at ho
    have hme := hg
    have hb := gd_c ho
    rw [gd_e hb] at ho
    refine us_callSc 6 80 hR dL_schools_129 (y := 13010) (by decide +kernel) (by decide) (J := i13010) rfl rfl rfl rfl (rest := _) (Nat.le_of_ble_eq_true rfl) rfl rfl hb.1 hb.2 ?_
    obtain ⟨q18, hs18⟩ := bO_ex ho
    obtain ⟨T18, r18⟩ := q18
    replace ho := bO_go ho hs18
    refine sh_13010 h2.1 hme hs18 (fun G18 h318 hF18 => ?_)
    have h218 := h2.cls h318 hF18
    obtain ⟨S18, hS18⟩ : ∃ Sz, Sz = lT S T18 := ⟨_, rfl⟩
    rw [bS_eq, ← hS18] at ho
    rw [← hS18] at h218
    refine us_ldc hR dL_schools_132 (v := (-1000002)) (by decide +kernel) ?_
    refine us_icmp_ne hR dL_schools_134 157 (by decide) (fun c19 => ?_) (fun c19 => ?_)
    · rw [if_neg c19] at ho
      refine us_iconstC hR dL_schools_157 (c := 0) (by decide) ?_
      refine us_iret hR dL_schools_158 rfl (nar01 (Or.inl rfl)) ?_
      cases ho
      exact h _ (Or.inl rfl) h218
    · rw [if_pos c19] at ho
      refine us_aload_n hR dL_schools_137 rfl ?_
      refine us_iconstC hR dL_schools_138 (c := 1) (by decide) ?_
      refine us_aload hR dL_schools_139 rfl ?_
      refine us_iconstC hR dL_schools_141 (c := 2) (by decide) ?_
      have hg := gd_c ho
      rw [gd_e hg] at ho
      refine ul_iaload h218 hg hR dL_schools_142 ?_
      refine us_iconstC hR dL_schools_143 (c := 1) (by decide) ?_
      refine us_isub hR dL_schools_144 ?_
      have hg := gd_c ho
      rw [gd_e hg] at ho
      have hme := hg
      have hb := gd_c ho
      rw [gd_e hb] at ho
      refine us_callSc 6 80 hR dL_schools_145 (y := 13010) (by decide +kernel) (by decide) (J := i13010) rfl rfl rfl rfl (rest := _) (Nat.le_of_ble_eq_true rfl) rfl rfl hb.1 hb.2 ?_
      obtain ⟨q20, hs20⟩ := bO_ex ho
      obtain ⟨T20, r20⟩ := q20
      replace ho := bO_go ho hs20
      refine sh_13010 h218.1 hme hs20 (fun G20 h320 hF20 => ?_)
      have h220 := h218.cls h320 hF20
      obtain ⟨S20, hS20⟩ : ∃ Sz, Sz = lT S18 T20 := ⟨_, rfl⟩
      rw [bS_eq, ← hS20] at ho
      rw [← hS20] at h220
      refine us_ldc hR dL_schools_148 (v := (-1000002)) (by decide +kernel) ?_
      refine us_icmp_ne hR dL_schools_150 157 (by decide) (fun c21 => ?_) (fun c21 => ?_)
      · rw [if_neg c21] at ho
        refine us_iconstC hR dL_schools_157 (c := 0) (by decide) ?_
        refine us_iret hR dL_schools_158 rfl (nar01 (Or.inl rfl)) ?_
        cases ho
        exact h _ (Or.inl rfl) h220
      · rw [if_pos c21] at ho
        refine us_iconstC hR dL_schools_153 (c := 1) (by decide) ?_
        refine us_goto hR dL_schools_154 158 (by decide) ?_
        refine us_iret hR dL_schools_158 rfl (nar01 (Or.inr rfl)) ?_
        cases ho
        exact h _ (Or.inr rfl) h220
set_option maxHeartbeats 2000000 in
set_option maxRecDepth 8000 in
theorem n13041_J104 {d : Nat} {P : ab_Pq} {X : ab_Xq} {o : Lx × Int32} {R : ab_K} (hR : ab_Cl (d + 917) (ab_Gam (d + 917)) (mCi i13041) i13041 0 (fun _ => 0) P X R) (h : ∀ G1, (o.2 = 0 ∨ o.2 = 1) → LRep G1 o.1 → P G1 (some (.int o.2))) : ∀ (l0 : Nat) (l1 : Nat) (l2 : Nat) (l3 : Nat) (l4 : Nat) (l5 : Nat) (l6 : Nat) (l7 : Int32) (l8 : Int32) (l9 : Int32) (l10 : Int32) (l11 : Int32) (l12 : Int32) (l13 : Int32)  (S : Lx) (Ga : ab_G) (bc bs : Nat) (h2 : LRep Ga S) (ho : l_13041_J104 l0 l1 l2 l3 l4 l5 l6 l7 l8 l9 l10 l11 l12 l13 bc bs S = some o), R 104 [some (.ref l0), some (.ref l1), some (.ref l2), some (.ref l3), some (.ref l4), some (.ref l5), some (.ref l6), some (.int l7), some (.int l8), some (.int l9), some (.int l10), some (.int l11), some (.int l12), some (.int l13), none, none, none, none] [] Ga bc bs := by
  have h13041_J122 := n13041_J122 hR h 
  intro l0 l1 l2 l3 l4 l5 l6 l7 l8 l9 l10 l11 l12 l13  S Ga bc bs h2 ho
  unfold l_13041_J104 at ho
  refine us_iload hR dL_schools_104 rfl ?_
  refine us_iload hR dL_schools_106 rfl ?_
  refine us_if_eq hR dL_schools_108 120 (by decide) (fun c22 => ?_) (fun c22 => ?_)
  · rw [if_pos c22] at ho
    refine us_ldc hR dL_schools_120 (v := (-1000003)) (by decide +kernel) ?_
    exact h13041_J122 l0 l1 l2 l3 l4 l5 l6 l7 l8 l9 l10 l11 l12 l13 (-1000003) l13  S Ga _ _ h2 ho
  · rw [if_neg c22] at ho
    refine us_aload hR dL_schools_111 rfl ?_
    refine us_iconstC hR dL_schools_113 (c := 0) (by decide) ?_
    have hg := gd_c ho
    rw [gd_e hg] at ho
    refine ul_iaload h2 hg hR dL_schools_114 ?_
    refine us_iconstC hR dL_schools_115 (c := 1) (by decide) ?_
    refine us_isub hR dL_schools_116 ?_
    refine us_goto hR dL_schools_117 122 (by decide) ?_
    exact h13041_J122 l0 l1 l2 l3 l4 l5 l6 l7 l8 l9 l10 l11 l12 l13 ((xg (S.2 l6) 0) - 1) l13  S Ga _ _ h2 ho
set_option maxHeartbeats 2000000 in
set_option maxRecDepth 8000 in
theorem n13041_J63 {d : Nat} {P : ab_Pq} {X : ab_Xq} {o : Lx × Int32} {R : ab_K} (hR : ab_Cl (d + 917) (ab_Gam (d + 917)) (mCi i13041) i13041 0 (fun _ => 0) P X R) (h : ∀ G1, (o.2 = 0 ∨ o.2 = 1) → LRep G1 o.1 → P G1 (some (.int o.2))) : ∀ (l0 : Nat) (l1 : Nat) (l2 : Nat) (l3 : Nat) (l4 : Nat) (l5 : Nat) (l6 : Nat) (l7 : Int32) (l8 : Int32) (l9 : Int32) (l10 : Int32) (l11 : Int32) (k0 : Int32)  (S : Lx) (Ga : ab_G) (bc bs : Nat) (h2 : LRep Ga S) (ho : l_13041_J63 l0 l1 l2 l3 l4 l5 l6 l7 l8 l9 l10 l11 k0 bc bs S = some o), R 63 [some (.ref l0), some (.ref l1), some (.ref l2), some (.ref l3), some (.ref l4), some (.ref l5), some (.ref l6), some (.int l7), some (.int l8), some (.int l9), some (.int l10), some (.int l11), none, none, none, none, none, none] [.int k0] Ga bc bs := by
  have h13041_J104 := n13041_J104 hR h 
  intro l0 l1 l2 l3 l4 l5 l6 l7 l8 l9 l10 l11 k0  S Ga bc bs h2 ho
  unfold l_13041_J63 at ho
  refine us_istore hR dL_schools_63 (Nat.le_of_ble_eq_true rfl) ?_
  refine us_aload_n hR dL_schools_65 rfl ?_
  refine us_iload hR dL_schools_66 rfl ?_
  refine us_iload hR dL_schools_68 rfl ?_
  have hg := gd_c ho
  rw [gd_e hg] at ho
  have hme := hg
  have hb := gd_c ho
  rw [gd_e hb] at ho
  refine us_callSc 6 80 hR dL_schools_70 (y := 13010) (by decide +kernel) (by decide) (J := i13010) rfl rfl rfl rfl (rest := _) (Nat.le_of_ble_eq_true rfl) rfl rfl hb.1 hb.2 ?_
  obtain ⟨q23, hs23⟩ := bO_ex ho
  obtain ⟨T23, r23⟩ := q23
  replace ho := bO_go ho hs23
  refine sh_13010 h2.1 hme hs23 (fun G23 h323 hF23 => ?_)
  have h223 := h2.cls h323 hF23
  obtain ⟨S23, hS23⟩ : ∃ Sz, Sz = lT S T23 := ⟨_, rfl⟩
  rw [bS_eq, ← hS23] at ho
  rw [← hS23] at h223
  refine us_istore hR dL_schools_73 (Nat.le_of_ble_eq_true rfl) ?_
  change R _ [some (.ref l0), some (.ref l1), some (.ref l2), some (.ref l3), some (.ref l4), some (.ref l5), some (.ref l6), some (.int l7), some (.int l8), some (.int l9), some (.int l10), some (.int l11), some (.int k0), some (.int r23), none, none, none, none] _ _ _ _
  refine us_iload hR dL_schools_75 rfl ?_
  refine us_if_eq hR dL_schools_77 104 (by decide) (fun c24 => ?_) (fun c24 => ?_)
  · rw [if_pos c24] at ho
    exact h13041_J104 l0 l1 l2 l3 l4 l5 l6 l7 l8 l9 l10 l11 k0 r23  S23 G23 _ _ h223 ho
  · rw [if_neg c24] at ho
    refine us_aload hR dL_schools_80 rfl ?_
    refine us_aload hR dL_schools_82 rfl ?_
    refine us_iconstC hR dL_schools_84 (c := 0) (by decide) ?_
    have hg := gd_c ho
    rw [gd_e hg] at ho
    refine ul_iaload h223 hg hR dL_schools_85 ?_
    refine us_iload hR dL_schools_86 rfl ?_
    refine us_sipushC hR dL_schools_88 (c := 4096) (by decide) ?_
    refine us_iload hR dL_schools_91 rfl ?_
    refine us_imul hR dL_schools_93 ?_
    refine us_iadd hR dL_schools_94 ?_
    have hg := gd_c ho
    rw [gd_e hg] at ho
    refine ul_iastore h223 hg hR dL_schools_95 (fun G25 S25 hs25 h225 => ?_)
    rw [← hs25, bS_eq] at ho
    refine us_aload hR dL_schools_96 rfl ?_
    refine us_iconstC hR dL_schools_98 (c := 0) (by decide) ?_
    refine us_dup2 hR dL_schools_99 rfl rfl ?_
    have hg := gd_c ho
    rw [gd_e hg] at ho
    refine ul_iaload h225 hg hR dL_schools_100 ?_
    refine us_iconstC hR dL_schools_101 (c := 1) (by decide) ?_
    refine us_iadd hR dL_schools_102 ?_
    have hg := gd_c ho
    rw [gd_e hg] at ho
    refine ul_iastore h225 hg hR dL_schools_103 (fun G26 S26 hs26 h226 => ?_)
    rw [← hs26, bS_eq] at ho
    exact h13041_J104 l0 l1 l2 l3 l4 l5 l6 l7 l8 l9 l10 l11 k0 r23  S26 G26 _ _ h226 ho
set_option maxHeartbeats 2000000 in
set_option maxRecDepth 8000 in
theorem n13041_J21 {d : Nat} {P : ab_Pq} {X : ab_Xq} {o : Lx × Int32} {R : ab_K} (hR : ab_Cl (d + 917) (ab_Gam (d + 917)) (mCi i13041) i13041 0 (fun _ => 0) P X R) (h : ∀ G1, (o.2 = 0 ∨ o.2 = 1) → LRep G1 o.1 → P G1 (some (.int o.2))) : ∀ (l0 : Nat) (l1 : Nat) (l2 : Nat) (l3 : Nat) (l4 : Nat) (l5 : Nat) (l6 : Nat) (l7 : Int32) (l8 : Int32) (l9 : Int32)  (S : Lx) (Ga : ab_G) (bc bs : Nat) (h2 : LRep Ga S) (ho : l_13041_J21 l0 l1 l2 l3 l4 l5 l6 l7 l8 l9 bc bs S = some o), R 21 [some (.ref l0), some (.ref l1), some (.ref l2), some (.ref l3), some (.ref l4), some (.ref l5), some (.ref l6), some (.int l7), some (.int l8), some (.int l9), none, none, none, none, none, none, none, none] [] Ga bc bs := by
  have h13041_J63 := n13041_J63 hR h 
  intro l0 l1 l2 l3 l4 l5 l6 l7 l8 l9  S Ga bc bs h2 ho
  unfold l_13041_J21 at ho
  refine us_iconstC hR dL_schools_21 (c := 1) (by decide) ?_
  refine us_iload hR dL_schools_22 rfl ?_
  refine us_sipushC hR dL_schools_24 (c := 300) (by decide) ?_
  refine us_callS0 hR dL_schools_27 (y := 13001) (by decide +kernel) (by decide) (J := i13001) rfl rfl rfl rfl (rest := _) (Nat.le_of_ble_eq_true rfl) rfl rfl ?_
  obtain ⟨r27, hr27⟩ := bP_ex ho
  replace ho := bP_go ho hr27
  refine sh_13001 h2.1 hr27 ?_
  refine us_iadd hR dL_schools_30 ?_
  refine us_istore hR dL_schools_31 (Nat.le_of_ble_eq_true rfl) ?_
  refine us_aload hR dL_schools_33 rfl ?_
  refine us_iconstC hR dL_schools_35 (c := 2) (by decide) ?_
  have hg := gd_c ho
  rw [gd_e hg] at ho
  refine ul_iaload h2 hg hR dL_schools_36 ?_
  refine us_iload hR dL_schools_37 rfl ?_
  refine us_bipushC hR dL_schools_39 (c := 9) (by decide) ?_
  refine us_ishr hR dL_schools_41 ?_
  refine us_bipushC hR dL_schools_42 (c := 9) (by decide) ?_
  refine us_callS0 hR dL_schools_44 (y := 13001) (by decide +kernel) (by decide) (J := i13001) rfl rfl rfl rfl (rest := _) (Nat.le_of_ble_eq_true rfl) rfl rfl ?_
  obtain ⟨r28, hr28⟩ := bP_ex ho
  replace ho := bP_go ho hr28
  refine sh_13001 h2.1 hr28 ?_
  refine us_iadd hR dL_schools_47 ?_
  refine us_istore hR dL_schools_48 (Nat.le_of_ble_eq_true rfl) ?_
  change R _ [some (.ref l0), some (.ref l1), some (.ref l2), some (.ref l3), some (.ref l4), some (.ref l5), some (.ref l6), some (.int l7), some (.int l8), some (.int l9), some (.int (1 + r27)), some (.int ((xg (S.2 l6) 2) + r28)), none, none, none, none, none, none] _ _ _ _
  refine us_aload hR dL_schools_50 rfl ?_
  refine us_iconstC hR dL_schools_52 (c := 0) (by decide) ?_
  have hg := gd_c ho
  rw [gd_e hg] at ho
  refine ul_iaload h2 hg hR dL_schools_53 ?_
  refine us_iconstC hR dL_schools_54 (c := 4) (by decide) ?_
  refine us_icmp_ge hR dL_schools_55 62 (by decide) (fun c29 => ?_) (fun c29 => ?_)
  · rw [if_pos c29] at ho
    refine us_iconstC hR dL_schools_62 (c := 0) (by decide) ?_
    exact h13041_J63 l0 l1 l2 l3 l4 l5 l6 l7 l8 l9 (1 + r27) ((xg (S.2 l6) 2) + r28) 0  S Ga _ _ h2 ho
  · rw [if_neg c29] at ho
    refine us_iconstC hR dL_schools_58 (c := 1) (by decide) ?_
    refine us_goto hR dL_schools_59 63 (by decide) ?_
    exact h13041_J63 l0 l1 l2 l3 l4 l5 l6 l7 l8 l9 (1 + r27) ((xg (S.2 l6) 2) + r28) 1  S Ga _ _ h2 ho
set_option maxHeartbeats 2000000 in
set_option maxRecDepth 8000 in
theorem sl_13041 {d : Nat} {G : ab_G} {S : Lx} {P : ab_Pq} {X : ab_Xq} (h2 : LRep G S) {x0 : Nat} {x1 : Nat} {x2 : Nat} {x3 : Nat} {x4 : Nat} {x5 : Nat} {x6 : Nat} {x7 : Int32} {x8 : Int32} {o : Lx × Int32} (ho : l_13041 x0 x1 x2 x3 x4 x5 x6 x7 x8 S = some o) (h : ∀ G1, (o.2 = 0 ∨ o.2 = 1) → LRep G1 o.1 → P G1 (some (.int o.2))) : ab_Gam (d + 918) 13041 [.ref x0, .ref x1, .ref x2, .ref x3, .ref x4, .ref x5, .ref x6, .int x7, .int x8] G P X := by
  unfold l_13041 at ho
  refine ab_enter (I := i13041) rfl (Nat.le_of_ble_eq_true rfl) (fun R hR => ?_)
  have h13041_J451 := n13041_J451 hR h 
  have h13041_J21 := n13041_J21 hR h 
  change R _ [some (.ref x0), some (.ref x1), some (.ref x2), some (.ref x3), some (.ref x4), some (.ref x5), some (.ref x6), some (.int x7), some (.int x8), none, none, none, none, none, none, none, none, none] _ _ 1300 48600
  refine us_iload hR dL_schools_0 rfl ?_
  refine us_bipushC hR dL_schools_2 (c := 12) (by decide) ?_
  refine us_callS0 hR dL_schools_4 (y := 13001) (by decide +kernel) (by decide) (J := i13001) rfl rfl rfl rfl (rest := _) (Nat.le_of_ble_eq_true rfl) rfl rfl ?_
  obtain ⟨r30, hr30⟩ := bP_ex ho
  replace ho := bP_go ho hr30
  refine sh_13001 h2.1 hr30 ?_
  refine us_istore hR dL_schools_7 (Nat.le_of_ble_eq_true rfl) ?_
  refine us_aload hR dL_schools_9 rfl ?_
  refine us_iconstC hR dL_schools_11 (c := 0) (by decide) ?_
  have hg := gd_c ho
  rw [gd_e hg] at ho
  refine ul_iaload h2 hg hR dL_schools_12 ?_
  refine us_if_eq hR dL_schools_13 21 (by decide) (fun c31 => ?_) (fun c31 => ?_)
  · rw [if_pos c31] at ho
    exact h13041_J21 x0 x1 x2 x3 x4 x5 x6 x7 x8 r30  S G _ _ h2 ho
  · rw [if_neg c31] at ho
    change R _ [some (.ref x0), some (.ref x1), some (.ref x2), some (.ref x3), some (.ref x4), some (.ref x5), some (.ref x6), some (.int x7), some (.int x8), some (.int r30), none, none, none, none, none, none, none, none] _ _ 1300 48600
    refine us_iload hR dL_schools_16 rfl ?_
    refine us_if_ne hR dL_schools_18 159 (by decide) (fun c32 => ?_) (fun c32 => ?_)
    · rw [if_neg c32] at ho
      change R _ [some (.ref x0), some (.ref x1), some (.ref x2), some (.ref x3), some (.ref x4), some (.ref x5), some (.ref x6), some (.int x7), some (.int x8), some (.int r30), none, none, none, none, none, none, none, none] _ _ 1300 48600
      refine us_iload hR dL_schools_159 rfl ?_
      refine us_iconstC hR dL_schools_161 (c := 4) (by decide) ?_
      refine us_ishr hR dL_schools_162 ?_
      refine us_aload hR dL_schools_163 rfl ?_
      refine us_iconstC hR dL_schools_165 (c := 0) (by decide) ?_
      have hg := gd_c ho
      rw [gd_e hg] at ho
      refine ul_iaload h2 hg hR dL_schools_166 ?_
      refine us_callS0 hR dL_schools_167 (y := 13001) (by decide +kernel) (by decide) (J := i13001) rfl rfl rfl rfl (rest := _) (Nat.le_of_ble_eq_true rfl) rfl rfl ?_
      obtain ⟨r33, hr33⟩ := bP_ex ho
      replace ho := bP_go ho hr33
      refine sh_13001 h2.1 hr33 ?_
      refine us_istore hR dL_schools_170 (Nat.le_of_ble_eq_true rfl) ?_
      refine us_iload hR dL_schools_172 rfl ?_
      refine us_iconstC hR dL_schools_174 (c := 4) (by decide) ?_
      refine us_icmp_ge hR dL_schools_175 419 (by decide) (fun c34 => ?_) (fun c34 => ?_)
      · rw [if_pos c34] at ho
        change R _ [some (.ref x0), some (.ref x1), some (.ref x2), some (.ref x3), some (.ref x4), some (.ref x5), some (.ref x6), some (.int x7), some (.int x8), some (.int r30), some (.int r33), none, none, none, none, none, none, none] _ _ 1300 48600
        refine us_iload hR dL_schools_419 rfl ?_
        refine us_iconstC hR dL_schools_421 (c := 4) (by decide) ?_
        refine us_icmp_ne hR dL_schools_422 647 (by decide) (fun c35 => ?_) (fun c35 => ?_)
        · rw [if_neg c35] at ho
          change R _ [some (.ref x0), some (.ref x1), some (.ref x2), some (.ref x3), some (.ref x4), some (.ref x5), some (.ref x6), some (.int x7), some (.int x8), some (.int r30), some (.int r33), none, none, none, none, none, none, none] _ _ 1300 48600
          refine us_iload hR dL_schools_647 rfl ?_
          refine us_iconstC hR dL_schools_649 (c := 5) (by decide) ?_
          refine us_icmp_ne hR dL_schools_650 712 (by decide) (fun c36 => ?_) (fun c36 => ?_)
          · rw [if_neg c36] at ho
            change R _ [some (.ref x0), some (.ref x1), some (.ref x2), some (.ref x3), some (.ref x4), some (.ref x5), some (.ref x6), some (.int x7), some (.int x8), some (.int r30), some (.int r33), none, none, none, none, none, none, none] _ _ 1300 48600
            refine us_iload hR dL_schools_712 rfl ?_
            refine us_bipushC hR dL_schools_714 (c := 10) (by decide) ?_
            refine us_icmp_ge hR dL_schools_716 734 (by decide) (fun c37 => ?_) (fun c37 => ?_)
            · rw [if_pos c37] at ho
              change R _ [some (.ref x0), some (.ref x1), some (.ref x2), some (.ref x3), some (.ref x4), some (.ref x5), some (.ref x6), some (.int x7), some (.int x8), some (.int r30), some (.int r33), none, none, none, none, none, none, none] _ _ 1300 48600
              refine us_aload hR dL_schools_734 rfl ?_
              refine us_iconstC hR dL_schools_736 (c := 4) (by decide) ?_
              refine us_dup2 hR dL_schools_737 rfl rfl ?_
              have hg := gd_c ho
              rw [gd_e hg] at ho
              refine ul_iaload h2 hg hR dL_schools_738 ?_
              refine us_iconstC hR dL_schools_739 (c := 1) (by decide) ?_
              refine us_iadd hR dL_schools_740 ?_
              have hg := gd_c ho
              rw [gd_e hg] at ho
              refine ul_iastore h2 hg hR dL_schools_741 (fun G38 S38 hs38 h238 => ?_)
              rw [← hs38, bS_eq] at ho
              refine us_aload hR dL_schools_742 rfl ?_
              refine us_iconstC hR dL_schools_744 (c := 1) (by decide) ?_
              have hg := gd_c ho
              rw [gd_e hg] at ho
              refine ul_iaload h238 hg hR dL_schools_745 ?_
              refine us_if_ne hR dL_schools_746 768 (by decide) (fun c39 => ?_) (fun c39 => ?_)
              · rw [if_neg c39] at ho
                change R _ [some (.ref x0), some (.ref x1), some (.ref x2), some (.ref x3), some (.ref x4), some (.ref x5), some (.ref x6), some (.int x7), some (.int x8), some (.int r30), some (.int r33), none, none, none, none, none, none, none] _ _ 1300 48600
                refine us_aload hR dL_schools_768 rfl ?_
                refine us_iconstC hR dL_schools_770 (c := 4) (by decide) ?_
                have hg := gd_c ho
                rw [gd_e hg] at ho
                refine ul_iaload h238 hg hR dL_schools_771 ?_
                refine us_bipushC hR dL_schools_772 (c := 12) (by decide) ?_
                refine us_icmp_gt hR dL_schools_774 793 (by decide) (fun c40 => ?_) (fun c40 => ?_)
                · rw [if_pos c40] at ho
                  change R _ [some (.ref x0), some (.ref x1), some (.ref x2), some (.ref x3), some (.ref x4), some (.ref x5), some (.ref x6), some (.int x7), some (.int x8), some (.int r30), some (.int r33), none, none, none, none, none, none, none] _ _ 1300 48600
                  refine us_iconstC hR dL_schools_793 (c := 1) (by decide) ?_
                  refine us_goto hR dL_schools_794 798 (by decide) ?_
                  refine us_iret hR dL_schools_798 rfl (nar01 (Or.inr rfl)) ?_
                  cases ho
                  exact h _ (Or.inr rfl) h238
                · rw [if_neg c40] at ho
                  change R _ [some (.ref x0), some (.ref x1), some (.ref x2), some (.ref x3), some (.ref x4), some (.ref x5), some (.ref x6), some (.int x7), some (.int x8), some (.int r30), some (.int r33), none, none, none, none, none, none, none] _ _ 1300 48600
                  refine us_aload_n hR dL_schools_777 rfl ?_
                  refine us_aload_n hR dL_schools_778 rfl ?_
                  refine us_aload hR dL_schools_779 rfl ?_
                  refine us_aload hR dL_schools_781 rfl ?_
                  refine us_aload hR dL_schools_783 rfl ?_
                  refine us_iload hR dL_schools_785 rfl ?_
                  refine us_callSc 520 3200 hR dL_schools_787 (y := 13040) (by decide +kernel) (by decide) (J := i13040) rfl rfl rfl rfl (rest := _) (Nat.le_of_ble_eq_true rfl) rfl rfl (Nat.le_of_ble_eq_true rfl) (Nat.le_of_ble_eq_true rfl) ?_
                  obtain ⟨q41, hs41⟩ := bO_ex ho
                  obtain ⟨S41, r41⟩ := q41
                  replace ho := bO_go ho hs41
                  refine sl_13040 h238 hs41 (fun G41 hb41 h241 => ?_)
                  change R _ [some (.ref x0), some (.ref x1), some (.ref x2), some (.ref x3), some (.ref x4), some (.ref x5), some (.ref x6), some (.int x7), some (.int x8), some (.int r30), some (.int r33), none, none, none, none, none, none, none] _ _ 780 45400
                  refine us_if_eq hR dL_schools_790 797 (by decide) (fun c42 => ?_) (fun c42 => ?_)
                  · rw [if_pos c42] at ho
                    change R _ [some (.ref x0), some (.ref x1), some (.ref x2), some (.ref x3), some (.ref x4), some (.ref x5), some (.ref x6), some (.int x7), some (.int x8), some (.int r30), some (.int r33), none, none, none, none, none, none, none] _ _ 780 45400
                    refine us_iconstC hR dL_schools_797 (c := 0) (by decide) ?_
                    refine us_iret hR dL_schools_798 rfl (nar01 (Or.inl rfl)) ?_
                    cases ho
                    exact h _ (Or.inl rfl) h241
                  · rw [if_neg c42] at ho
                    change R _ [some (.ref x0), some (.ref x1), some (.ref x2), some (.ref x3), some (.ref x4), some (.ref x5), some (.ref x6), some (.int x7), some (.int x8), some (.int r30), some (.int r33), none, none, none, none, none, none, none] _ _ 780 45400
                    refine us_iconstC hR dL_schools_793 (c := 1) (by decide) ?_
                    refine us_goto hR dL_schools_794 798 (by decide) ?_
                    refine us_iret hR dL_schools_798 rfl (nar01 (Or.inr rfl)) ?_
                    cases ho
                    exact h _ (Or.inr rfl) h241
              · rw [if_pos c39] at ho
                change R _ [some (.ref x0), some (.ref x1), some (.ref x2), some (.ref x3), some (.ref x4), some (.ref x5), some (.ref x6), some (.int x7), some (.int x8), some (.int r30), some (.int r33), none, none, none, none, none, none, none] _ _ 1300 48600
                refine us_aload_n hR dL_schools_749 rfl ?_
                refine us_iconstC hR dL_schools_750 (c := 0) (by decide) ?_
                refine us_iconstC hR dL_schools_751 (c := 0) (by decide) ?_
                have hg := gd_c ho
                rw [gd_e hg] at ho
                have hme := hg
                refine us_callSc 18 108 hR dL_schools_752 (y := 13025) (by decide +kernel) (by decide) (J := i13025) rfl rfl rfl rfl (rest := _) (Nat.le_of_ble_eq_true rfl) rfl rfl (Nat.le_of_ble_eq_true rfl) (Nat.le_of_ble_eq_true rfl) ?_
                obtain ⟨q43, hs43⟩ := bO_ex ho
                obtain ⟨T43, r43⟩ := q43
                replace ho := bO_go ho hs43
                refine sh_13025 h238.1 hme hs43 (fun G43 h343 hF43 => ?_)
                have h243 := h238.cls h343 hF43
                obtain ⟨S43, hS43⟩ : ∃ Sz, Sz = lT S38 T43 := ⟨_, rfl⟩
                rw [bS_eq, ← hS43] at ho
                rw [← hS43] at h243
                change R _ [some (.ref x0), some (.ref x1), some (.ref x2), some (.ref x3), some (.ref x4), some (.ref x5), some (.ref x6), some (.int x7), some (.int x8), some (.int r30), some (.int r33), none, none, none, none, none, none, none] _ _ 1282 48492
                refine us_ldc hR dL_schools_755 (v := (-1000001)) (by decide +kernel) ?_
                refine us_icmp_ne hR dL_schools_757 764 (by decide) (fun c44 => ?_) (fun c44 => ?_)
                · rw [if_neg c44] at ho
                  change R _ [some (.ref x0), some (.ref x1), some (.ref x2), some (.ref x3), some (.ref x4), some (.ref x5), some (.ref x6), some (.int x7), some (.int x8), some (.int r30), some (.int r33), none, none, none, none, none, none, none] _ _ 1282 48492
                  refine us_iconstC hR dL_schools_764 (c := 0) (by decide) ?_
                  refine us_goto hR dL_schools_765 798 (by decide) ?_
                  refine us_iret hR dL_schools_798 rfl (nar01 (Or.inl rfl)) ?_
                  cases ho
                  exact h _ (Or.inl rfl) h243
                · rw [if_pos c44] at ho
                  change R _ [some (.ref x0), some (.ref x1), some (.ref x2), some (.ref x3), some (.ref x4), some (.ref x5), some (.ref x6), some (.int x7), some (.int x8), some (.int r30), some (.int r33), none, none, none, none, none, none, none] _ _ 1282 48492
                  refine us_iconstC hR dL_schools_760 (c := 1) (by decide) ?_
                  refine us_goto hR dL_schools_761 798 (by decide) ?_
                  refine us_iret hR dL_schools_798 rfl (nar01 (Or.inr rfl)) ?_
                  cases ho
                  exact h _ (Or.inr rfl) h243
            · rw [if_neg c37] at ho
              change R _ [some (.ref x0), some (.ref x1), some (.ref x2), some (.ref x3), some (.ref x4), some (.ref x5), some (.ref x6), some (.int x7), some (.int x8), some (.int r30), some (.int r33), none, none, none, none, none, none, none] _ _ 1300 48600
              refine us_aload_n hR dL_schools_719 rfl ?_
              refine us_aload_n hR dL_schools_720 rfl ?_
              refine us_aload_n hR dL_schools_721 rfl ?_
              refine us_aload hR dL_schools_722 rfl ?_
              refine us_aload hR dL_schools_724 rfl ?_
              refine us_aload hR dL_schools_726 rfl ?_
              refine us_iload hR dL_schools_728 rfl ?_
              refine us_callSc 700 48500 hR dL_schools_730 (y := 13039) (by decide +kernel) (by decide) (J := i13039) rfl rfl rfl rfl (rest := _) (Nat.le_of_ble_eq_true rfl) rfl rfl (Nat.le_of_ble_eq_true rfl) (Nat.le_of_ble_eq_true rfl) ?_
              obtain ⟨q45, hs45⟩ := bO_ex ho
              obtain ⟨S45, r45⟩ := q45
              replace ho := bO_go ho hs45
              refine sl_13039 h2 hs45 (fun G45 hb45 h245 => ?_)
              change R _ [some (.ref x0), some (.ref x1), some (.ref x2), some (.ref x3), some (.ref x4), some (.ref x5), some (.ref x6), some (.int x7), some (.int x8), some (.int r30), some (.int r33), none, none, none, none, none, none, none] _ _ 600 100
              refine us_iret hR dL_schools_733 rfl (nar01 hb45) ?_
              cases ho
              exact h _ hb45 h245
          · rw [if_pos c36] at ho
            change R _ [some (.ref x0), some (.ref x1), some (.ref x2), some (.ref x3), some (.ref x4), some (.ref x5), some (.ref x6), some (.int x7), some (.int x8), some (.int r30), some (.int r33), none, none, none, none, none, none, none] _ _ 1300 48600
            refine us_iconstC hR dL_schools_653 (c := 1) (by decide) ?_
            refine us_iload hR dL_schools_654 rfl ?_
            refine us_iconstC hR dL_schools_656 (c := 4) (by decide) ?_
            refine us_callS0 hR dL_schools_657 (y := 13001) (by decide +kernel) (by decide) (J := i13001) rfl rfl rfl rfl (rest := _) (Nat.le_of_ble_eq_true rfl) rfl rfl ?_
            obtain ⟨r46, hr46⟩ := bP_ex ho
            replace ho := bP_go ho hr46
            refine sh_13001 h2.1 hr46 ?_
            refine us_iadd hR dL_schools_660 ?_
            refine us_istore hR dL_schools_661 (Nat.le_of_ble_eq_true rfl) ?_
            refine us_aload hR dL_schools_663 rfl ?_
            refine us_iconstC hR dL_schools_665 (c := 2) (by decide) ?_
            refine us_dup2 hR dL_schools_666 rfl rfl ?_
            have hg := gd_c ho
            rw [gd_e hg] at ho
            refine ul_iaload h2 hg hR dL_schools_667 ?_
            refine us_iload hR dL_schools_668 rfl ?_
            refine us_iadd hR dL_schools_670 ?_
            have hg := gd_c ho
            rw [gd_e hg] at ho
            refine ul_iastore h2 hg hR dL_schools_671 (fun G47 S47 hs47 h247 => ?_)
            rw [← hs47, bS_eq] at ho
            refine us_aload_n hR dL_schools_672 rfl ?_
            refine us_iload hR dL_schools_673 rfl ?_
            have hg := gd_c ho
            rw [gd_e hg] at ho
            have hme := hg
            refine us_callSc 2 20 hR dL_schools_675 (y := 13013) (by decide +kernel) (by decide) (J := i13013) rfl rfl rfl rfl (rest := _) (Nat.le_of_ble_eq_true rfl) rfl rfl (Nat.le_of_ble_eq_true rfl) (Nat.le_of_ble_eq_true rfl) ?_
            obtain ⟨q48, hs48⟩ := bO_ex ho
            obtain ⟨T48, r48⟩ := q48
            replace ho := bO_go ho hs48
            refine sh_13013 h247.1 hme hs48 (fun G48 h348 hF48 => ?_)
            have h248 := h247.cls h348 hF48
            obtain ⟨S48, hS48⟩ : ∃ Sz, Sz = lT S47 T48 := ⟨_, rfl⟩
            rw [bS_eq, ← hS48] at ho
            rw [← hS48] at h248
            change R _ [some (.ref x0), some (.ref x1), some (.ref x2), some (.ref x3), some (.ref x4), some (.ref x5), some (.ref x6), some (.int x7), some (.int x8), some (.int r30), some (.int r33), some (.int (1 + r46)), none, none, none, none, none, none] _ _ 1298 48580
            refine us_aload hR dL_schools_678 rfl ?_
            refine us_iconstC hR dL_schools_680 (c := 2) (by decide) ?_
            have hg := gd_c ho
            rw [gd_e hg] at ho
            refine ul_iaload h248 hg hR dL_schools_681 ?_
            refine us_icmp_ne hR dL_schools_682 710 (by decide) (fun c49 => ?_) (fun c49 => ?_)
            · rw [if_neg c49] at ho
              change R _ [some (.ref x0), some (.ref x1), some (.ref x2), some (.ref x3), some (.ref x4), some (.ref x5), some (.ref x6), some (.int x7), some (.int x8), some (.int r30), some (.int r33), some (.int (1 + r46)), none, none, none, none, none, none] _ _ 1298 48580
              refine us_iconstC hR dL_schools_710 (c := 0) (by decide) ?_
              refine us_iret hR dL_schools_711 rfl (nar01 (Or.inl rfl)) ?_
              cases ho
              exact h _ (Or.inl rfl) h248
            · rw [if_pos c49] at ho
              change R _ [some (.ref x0), some (.ref x1), some (.ref x2), some (.ref x3), some (.ref x4), some (.ref x5), some (.ref x6), some (.int x7), some (.int x8), some (.int r30), some (.int r33), some (.int (1 + r46)), none, none, none, none, none, none] _ _ 1298 48580
              refine us_aload_n hR dL_schools_685 rfl ?_
              refine us_iconstC hR dL_schools_686 (c := 0) (by decide) ?_
              have hg := gd_c ho
              rw [gd_e hg] at ho
              have hme := hg
              refine us_callSc 2 20 hR dL_schools_687 (y := 13013) (by decide +kernel) (by decide) (J := i13013) rfl rfl rfl rfl (rest := _) (Nat.le_of_ble_eq_true rfl) rfl rfl (Nat.le_of_ble_eq_true rfl) (Nat.le_of_ble_eq_true rfl) ?_
              obtain ⟨q50, hs50⟩ := bO_ex ho
              obtain ⟨T50, r50⟩ := q50
              replace ho := bO_go ho hs50
              refine sh_13013 h248.1 hme hs50 (fun G50 h350 hF50 => ?_)
              have h250 := h248.cls h350 hF50
              obtain ⟨S50, hS50⟩ : ∃ Sz, Sz = lT S48 T50 := ⟨_, rfl⟩
              rw [bS_eq, ← hS50] at ho
              rw [← hS50] at h250
              change R _ [some (.ref x0), some (.ref x1), some (.ref x2), some (.ref x3), some (.ref x4), some (.ref x5), some (.ref x6), some (.int x7), some (.int x8), some (.int r30), some (.int r33), some (.int (1 + r46)), none, none, none, none, none, none] _ _ 1296 48560
              refine us_ldc hR dL_schools_690 (v := (-1000002)) (by decide +kernel) ?_
              refine us_icmp_ne hR dL_schools_692 710 (by decide) (fun c51 => ?_) (fun c51 => ?_)
              · rw [if_neg c51] at ho
                change R _ [some (.ref x0), some (.ref x1), some (.ref x2), some (.ref x3), some (.ref x4), some (.ref x5), some (.ref x6), some (.int x7), some (.int x8), some (.int r30), some (.int r33), some (.int (1 + r46)), none, none, none, none, none, none] _ _ 1296 48560
                refine us_iconstC hR dL_schools_710 (c := 0) (by decide) ?_
                refine us_iret hR dL_schools_711 rfl (nar01 (Or.inl rfl)) ?_
                cases ho
                exact h _ (Or.inl rfl) h250
              · rw [if_pos c51] at ho
                change R _ [some (.ref x0), some (.ref x1), some (.ref x2), some (.ref x3), some (.ref x4), some (.ref x5), some (.ref x6), some (.int x7), some (.int x8), some (.int r30), some (.int r33), some (.int (1 + r46)), none, none, none, none, none, none] _ _ 1296 48560
                refine us_aload_n hR dL_schools_695 rfl ?_
                refine us_bipushC hR dL_schools_696 (c := 101) (by decide) ?_
                have hg := gd_c ho
                rw [gd_e hg] at ho
                have hme := hg
                refine us_callSc 2 20 hR dL_schools_698 (y := 13013) (by decide +kernel) (by decide) (J := i13013) rfl rfl rfl rfl (rest := _) (Nat.le_of_ble_eq_true rfl) rfl rfl (Nat.le_of_ble_eq_true rfl) (Nat.le_of_ble_eq_true rfl) ?_
                obtain ⟨q52, hs52⟩ := bO_ex ho
                obtain ⟨T52, r52⟩ := q52
                replace ho := bO_go ho hs52
                refine sh_13013 h250.1 hme hs52 (fun G52 h352 hF52 => ?_)
                have h252 := h250.cls h352 hF52
                obtain ⟨S52, hS52⟩ : ∃ Sz, Sz = lT S50 T52 := ⟨_, rfl⟩
                rw [bS_eq, ← hS52] at ho
                rw [← hS52] at h252
                change R _ [some (.ref x0), some (.ref x1), some (.ref x2), some (.ref x3), some (.ref x4), some (.ref x5), some (.ref x6), some (.int x7), some (.int x8), some (.int r30), some (.int r33), some (.int (1 + r46)), none, none, none, none, none, none] _ _ 1294 48540
                refine us_ldc hR dL_schools_701 (v := (-1000002)) (by decide +kernel) ?_
                refine us_icmp_ne hR dL_schools_703 710 (by decide) (fun c53 => ?_) (fun c53 => ?_)
                · rw [if_neg c53] at ho
                  change R _ [some (.ref x0), some (.ref x1), some (.ref x2), some (.ref x3), some (.ref x4), some (.ref x5), some (.ref x6), some (.int x7), some (.int x8), some (.int r30), some (.int r33), some (.int (1 + r46)), none, none, none, none, none, none] _ _ 1294 48540
                  refine us_iconstC hR dL_schools_710 (c := 0) (by decide) ?_
                  refine us_iret hR dL_schools_711 rfl (nar01 (Or.inl rfl)) ?_
                  cases ho
                  exact h _ (Or.inl rfl) h252
                · rw [if_pos c53] at ho
                  change R _ [some (.ref x0), some (.ref x1), some (.ref x2), some (.ref x3), some (.ref x4), some (.ref x5), some (.ref x6), some (.int x7), some (.int x8), some (.int r30), some (.int r33), some (.int (1 + r46)), none, none, none, none, none, none] _ _ 1294 48540
                  refine us_iconstC hR dL_schools_706 (c := 1) (by decide) ?_
                  refine us_goto hR dL_schools_707 711 (by decide) ?_
                  refine us_iret hR dL_schools_711 rfl (nar01 (Or.inr rfl)) ?_
                  cases ho
                  exact h _ (Or.inr rfl) h252
        · rw [if_pos c35] at ho
          change R _ [some (.ref x0), some (.ref x1), some (.ref x2), some (.ref x3), some (.ref x4), some (.ref x5), some (.ref x6), some (.int x7), some (.int x8), some (.int r30), some (.int r33), none, none, none, none, none, none, none] _ _ 1300 48600
          refine us_aload hR dL_schools_425 rfl ?_
          refine us_iconstC hR dL_schools_427 (c := 4) (by decide) ?_
          refine us_iload hR dL_schools_428 rfl ?_
          refine us_iadd hR dL_schools_430 ?_
          have hg := gd_c ho
          rw [gd_e hg] at ho
          refine ul_iaload h2 hg hR dL_schools_431 ?_
          refine us_if_ne hR dL_schools_432 439 (by decide) (fun c54 => ?_) (fun c54 => ?_)
          · rw [if_neg c54] at ho
            change R _ [some (.ref x0), some (.ref x1), some (.ref x2), some (.ref x3), some (.ref x4), some (.ref x5), some (.ref x6), some (.int x7), some (.int x8), some (.int r30), some (.int r33), none, none, none, none, none, none, none] _ _ 1300 48600
            refine us_iload hR dL_schools_439 rfl ?_
            refine us_aload hR dL_schools_441 rfl ?_
            refine us_iconstC hR dL_schools_443 (c := 4) (by decide) ?_
            refine us_iload hR dL_schools_444 rfl ?_
            refine us_iadd hR dL_schools_446 ?_
            have hg := gd_c ho
            rw [gd_e hg] at ho
            refine ul_iaload h2 hg hR dL_schools_447 ?_
            refine us_callS0 hR dL_schools_448 (y := 13001) (by decide +kernel) (by decide) (J := i13001) rfl rfl rfl rfl (rest := _) (Nat.le_of_ble_eq_true rfl) rfl rfl ?_
            obtain ⟨r55, hr55⟩ := bP_ex ho
            replace ho := bP_go ho hr55
            refine sh_13001 h2.1 hr55 ?_
            exact h13041_J451 x0 x1 x2 x3 x4 x5 x6 x7 x8 r30 r33 r55  S G _ _ h2 ho
          · rw [if_pos c54] at ho
            change R _ [some (.ref x0), some (.ref x1), some (.ref x2), some (.ref x3), some (.ref x4), some (.ref x5), some (.ref x6), some (.int x7), some (.int x8), some (.int r30), some (.int r33), none, none, none, none, none, none, none] _ _ 1300 48600
            refine us_iconstC hR dL_schools_435 (c := 0) (by decide) ?_
            refine us_goto hR dL_schools_436 451 (by decide) ?_
            exact h13041_J451 x0 x1 x2 x3 x4 x5 x6 x7 x8 r30 r33 0  S G _ _ h2 ho
      · rw [if_neg c34] at ho
        change R _ [some (.ref x0), some (.ref x1), some (.ref x2), some (.ref x3), some (.ref x4), some (.ref x5), some (.ref x6), some (.int x7), some (.int x8), some (.int r30), some (.int r33), none, none, none, none, none, none, none] _ _ 1300 48600
        refine us_aload hR dL_schools_178 rfl ?_
        refine us_iconstC hR dL_schools_180 (c := 4) (by decide) ?_
        refine us_iload hR dL_schools_181 rfl ?_
        refine us_iadd hR dL_schools_183 ?_
        have hg := gd_c ho
        rw [gd_e hg] at ho
        refine ul_iaload h2 hg hR dL_schools_184 ?_
        refine us_istore hR dL_schools_185 (Nat.le_of_ble_eq_true rfl) ?_
        refine us_iload hR dL_schools_187 rfl ?_
        refine us_iconstC hR dL_schools_189 (c := 3) (by decide) ?_
        refine us_callS0 hR dL_schools_190 (y := 13001) (by decide +kernel) (by decide) (J := i13001) rfl rfl rfl rfl (rest := _) (Nat.le_of_ble_eq_true rfl) rfl rfl ?_
        obtain ⟨r56, hr56⟩ := bP_ex ho
        replace ho := bP_go ho hr56
        refine sh_13001 h2.1 hr56 ?_
        refine us_istore hR dL_schools_193 (Nat.le_of_ble_eq_true rfl) ?_
        change R _ [some (.ref x0), some (.ref x1), some (.ref x2), some (.ref x3), some (.ref x4), some (.ref x5), some (.ref x6), some (.int x7), some (.int x8), some (.int r30), some (.int r33), some (.int (xg (S.2 x4) (4 + r33))), some (.int r56), none, none, none, none, none] _ _ 1300 48600
        refine us_iload hR dL_schools_195 rfl ?_
        refine us_iconstC hR dL_schools_197 (c := 2) (by decide) ?_
        refine us_ishr hR dL_schools_198 ?_
        refine us_bipushC hR dL_schools_199 (c := 10) (by decide) ?_
        refine us_callS0 hR dL_schools_201 (y := 13001) (by decide +kernel) (by decide) (J := i13001) rfl rfl rfl rfl (rest := _) (Nat.le_of_ble_eq_true rfl) rfl rfl ?_
        obtain ⟨r57, hr57⟩ := bP_ex ho
        replace ho := bP_go ho hr57
        refine sh_13001 h2.1 hr57 ?_
        refine us_istore hR dL_schools_204 (Nat.le_of_ble_eq_true rfl) ?_
        refine us_iload hR dL_schools_206 rfl ?_
        refine us_iconstC hR dL_schools_208 (c := 5) (by decide) ?_
        refine us_ishr hR dL_schools_209 ?_
        refine us_bipushC hR dL_schools_210 (c := 10) (by decide) ?_
        refine us_callS0 hR dL_schools_212 (y := 13001) (by decide +kernel) (by decide) (J := i13001) rfl rfl rfl rfl (rest := _) (Nat.le_of_ble_eq_true rfl) rfl rfl ?_
        obtain ⟨r58, hr58⟩ := bP_ex ho
        replace ho := bP_go ho hr58
        refine sh_13001 h2.1 hr58 ?_
        refine us_istore hR dL_schools_215 (Nat.le_of_ble_eq_true rfl) ?_
        change R _ [some (.ref x0), some (.ref x1), some (.ref x2), some (.ref x3), some (.ref x4), some (.ref x5), some (.ref x6), some (.int x7), some (.int x8), some (.int r30), some (.int r33), some (.int (xg (S.2 x4) (4 + r33))), some (.int r56), some (.int r57), some (.int r58), none, none, none] _ _ 1300 48600
        refine us_bipushC hR dL_schools_217 (c := 8) (by decide) ?_
        refine us_iload hR dL_schools_219 rfl ?_
        refine us_imul hR dL_schools_221 ?_
        refine us_iload hR dL_schools_222 rfl ?_
        refine us_iadd hR dL_schools_224 ?_
        refine us_istore hR dL_schools_225 (Nat.le_of_ble_eq_true rfl) ?_
        refine us_iload hR dL_schools_227 rfl ?_
        refine us_bipushC hR dL_schools_229 (c := 8) (by decide) ?_
        refine us_ishr hR dL_schools_231 ?_
        refine us_bipushC hR dL_schools_232 (c := 12) (by decide) ?_
        refine us_callS0 hR dL_schools_234 (y := 13001) (by decide +kernel) (by decide) (J := i13001) rfl rfl rfl rfl (rest := _) (Nat.le_of_ble_eq_true rfl) rfl rfl ?_
        obtain ⟨r59, hr59⟩ := bP_ex ho
        replace ho := bP_go ho hr59
        refine sh_13001 h2.1 hr59 ?_
        refine us_iconstC hR dL_schools_237 (c := 2) (by decide) ?_
        refine us_isub hR dL_schools_238 ?_
        refine us_istore hR dL_schools_239 (Nat.le_of_ble_eq_true rfl) ?_
        change R _ [some (.ref x0), some (.ref x1), some (.ref x2), some (.ref x3), some (.ref x4), some (.ref x5), some (.ref x6), some (.int x7), some (.int x8), some (.int r30), some (.int r33), some (.int (xg (S.2 x4) (4 + r33))), some (.int r56), some (.int r57), some (.int r58), some (.int ((8 * r33) + (xg (S.2 x4) (4 + r33)))), some (.int (r59 - 2)), none] _ _ 1300 48600
        refine us_aload_n hR dL_schools_241 rfl ?_
        refine us_iload hR dL_schools_242 rfl ?_
        refine us_iconstC hR dL_schools_244 (c := 1) (by decide) ?_
        refine us_iload hR dL_schools_245 rfl ?_
        refine us_bipushC hR dL_schools_247 (c := 11) (by decide) ?_
        refine us_ishr hR dL_schools_249 ?_
        refine us_bipushC hR dL_schools_250 (c := 10) (by decide) ?_
        refine us_callS0 hR dL_schools_252 (y := 13001) (by decide +kernel) (by decide) (J := i13001) rfl rfl rfl rfl (rest := _) (Nat.le_of_ble_eq_true rfl) rfl rfl ?_
        obtain ⟨r60, hr60⟩ := bP_ex ho
        replace ho := bP_go ho hr60
        refine sh_13001 h2.1 hr60 ?_
        refine us_iadd hR dL_schools_255 ?_
        refine us_iload hR dL_schools_256 rfl ?_
        refine us_iload hR dL_schools_258 rfl ?_
        refine us_iload hR dL_schools_260 rfl ?_
        refine us_iload hR dL_schools_262 rfl ?_
        refine us_iload hR dL_schools_264 rfl ?_
        have hg := gd_c ho
        rw [gd_e hg] at ho
        have hme := hg
        refine us_callSc 8 120 hR dL_schools_266 (y := 13011) (by decide +kernel) (by decide) (J := i13011) rfl rfl rfl rfl (rest := _) (Nat.le_of_ble_eq_true rfl) rfl rfl (Nat.le_of_ble_eq_true rfl) (Nat.le_of_ble_eq_true rfl) ?_
        obtain ⟨q61, hs61⟩ := bO_ex ho
        obtain ⟨T61, r61⟩ := q61
        replace ho := bO_go ho hs61
        refine sh_13011 h2.1 hme hs61 (fun G61 h361 hF61 => ?_)
        have h261 := h2.cls h361 hF61
        obtain ⟨S61, hS61⟩ : ∃ Sz, Sz = lT S T61 := ⟨_, rfl⟩
        rw [bS_eq, ← hS61] at ho
        rw [← hS61] at h261
        change R _ [some (.ref x0), some (.ref x1), some (.ref x2), some (.ref x3), some (.ref x4), some (.ref x5), some (.ref x6), some (.int x7), some (.int x8), some (.int r30), some (.int r33), some (.int (xg (S.2 x4) (4 + r33))), some (.int r56), some (.int r57), some (.int r58), some (.int ((8 * r33) + (xg (S.2 x4) (4 + r33)))), some (.int (r59 - 2)), none] _ _ 1292 48480
        refine us_istore hR dL_schools_269 (Nat.le_of_ble_eq_true rfl) ?_
        refine us_iload hR dL_schools_271 rfl ?_
        refine us_bipushC hR dL_schools_273 (c := 8) (by decide) ?_
        refine us_icmp_ne hR dL_schools_275 291 (by decide) (fun c62 => ?_) (fun c62 => ?_)
        · rw [if_neg c62] at ho
          change R _ [some (.ref x0), some (.ref x1), some (.ref x2), some (.ref x3), some (.ref x4), some (.ref x5), some (.ref x6), some (.int x7), some (.int x8), some (.int r30), some (.int r33), some (.int (xg (S.2 x4) (4 + r33))), some (.int r56), some (.int r57), some (.int r58), some (.int ((8 * r33) + (xg (S.2 x4) (4 + r33)))), some (.int (r59 - 2)), some (.int r61)] _ _ 1292 48480
          refine us_aload_n hR dL_schools_291 rfl ?_
          refine us_iload hR dL_schools_292 rfl ?_
          refine us_iconstC hR dL_schools_294 (c := 1) (by decide) ?_
          refine us_iload hR dL_schools_295 rfl ?_
          refine us_bipushC hR dL_schools_297 (c := 11) (by decide) ?_
          refine us_ishr hR dL_schools_299 ?_
          refine us_bipushC hR dL_schools_300 (c := 10) (by decide) ?_
          refine us_callS0 hR dL_schools_302 (y := 13001) (by decide +kernel) (by decide) (J := i13001) rfl rfl rfl rfl (rest := _) (Nat.le_of_ble_eq_true rfl) rfl rfl ?_
          obtain ⟨r63, hr63⟩ := bP_ex ho
          replace ho := bP_go ho hr63
          refine sh_13001 h261.1 hr63 ?_
          refine us_iadd hR dL_schools_305 ?_
          have hg := gd_c ho
          rw [gd_e hg] at ho
          refine ul_iastore h261 hg hR dL_schools_306 (fun G64 S64 hs64 h264 => ?_)
          rw [← hs64, bS_eq] at ho
          refine us_aload_n hR dL_schools_307 rfl ?_
          refine us_iconstC hR dL_schools_308 (c := 2) (by decide) ?_
          refine us_iload hR dL_schools_309 rfl ?_
          refine us_imul hR dL_schools_311 ?_
          refine us_iload hR dL_schools_312 rfl ?_
          have hg := gd_c ho
          rw [gd_e hg] at ho
          refine ul_iastore h264 hg hR dL_schools_314 (fun G65 S65 hs65 h265 => ?_)
          rw [← hs65, bS_eq] at ho
          refine us_aload_n hR dL_schools_315 rfl ?_
          refine us_iconstC hR dL_schools_316 (c := 2) (by decide) ?_
          refine us_iload hR dL_schools_317 rfl ?_
          refine us_imul hR dL_schools_319 ?_
          refine us_iconstC hR dL_schools_320 (c := 1) (by decide) ?_
          refine us_iadd hR dL_schools_321 ?_
          refine us_iload hR dL_schools_322 rfl ?_
          have hg := gd_c ho
          rw [gd_e hg] at ho
          refine ul_iastore h265 hg hR dL_schools_324 (fun G66 S66 hs66 h266 => ?_)
          rw [← hs66, bS_eq] at ho
          refine us_aload_n hR dL_schools_325 rfl ?_
          refine us_iload hR dL_schools_326 rfl ?_
          refine us_iload hR dL_schools_328 rfl ?_
          refine us_iconstC hR dL_schools_330 (c := 4) (by decide) ?_
          refine us_iload hR dL_schools_331 rfl ?_
          refine us_imul hR dL_schools_333 ?_
          refine us_iadd hR dL_schools_334 ?_
          refine us_bipushC hR dL_schools_335 (c := 64) (by decide) ?_
          refine us_iload hR dL_schools_337 rfl ?_
          refine us_imul hR dL_schools_339 ?_
          refine us_iadd hR dL_schools_340 ?_
          have hg := gd_c ho
          rw [gd_e hg] at ho
          refine ul_iastore h266 hg hR dL_schools_341 (fun G67 S67 hs67 h267 => ?_)
          rw [← hs67, bS_eq] at ho
          refine us_aload hR dL_schools_342 rfl ?_
          refine us_iconstC hR dL_schools_344 (c := 4) (by decide) ?_
          refine us_iload hR dL_schools_345 rfl ?_
          refine us_iadd hR dL_schools_347 ?_
          refine us_dup2 hR dL_schools_348 rfl rfl ?_
          have hg := gd_c ho
          rw [gd_e hg] at ho
          refine ul_iaload h267 hg hR dL_schools_349 ?_
          refine us_iconstC hR dL_schools_350 (c := 1) (by decide) ?_
          refine us_iadd hR dL_schools_351 ?_
          have hg := gd_c ho
          rw [gd_e hg] at ho
          refine ul_iastore h267 hg hR dL_schools_352 (fun G68 S68 hs68 h268 => ?_)
          rw [← hs68, bS_eq] at ho
          refine us_iload hR dL_schools_353 rfl ?_
          refine us_iload hR dL_schools_355 rfl ?_
          refine us_icmp_ne hR dL_schools_357 417 (by decide) (fun c69 => ?_) (fun c69 => ?_)
          · rw [if_neg c69] at ho
            change R _ [some (.ref x0), some (.ref x1), some (.ref x2), some (.ref x3), some (.ref x4), some (.ref x5), some (.ref x6), some (.int x7), some (.int x8), some (.int r30), some (.int r33), some (.int (xg (S.2 x4) (4 + r33))), some (.int r56), some (.int r57), some (.int r58), some (.int ((8 * r33) + (xg (S.2 x4) (4 + r33)))), some (.int (r59 - 2)), some (.int r61)] _ _ 1292 48480
            refine us_iconstC hR dL_schools_417 (c := 0) (by decide) ?_
            refine us_iret hR dL_schools_418 rfl (nar01 (Or.inl rfl)) ?_
            cases ho
            exact h _ (Or.inl rfl) h268
          · rw [if_pos c69] at ho
            change R _ [some (.ref x0), some (.ref x1), some (.ref x2), some (.ref x3), some (.ref x4), some (.ref x5), some (.ref x6), some (.int x7), some (.int x8), some (.int r30), some (.int r33), some (.int (xg (S.2 x4) (4 + r33))), some (.int r56), some (.int r57), some (.int r58), some (.int ((8 * r33) + (xg (S.2 x4) (4 + r33)))), some (.int (r59 - 2)), some (.int r61)] _ _ 1292 48480
            refine us_aload_n hR dL_schools_360 rfl ?_
            refine us_iload hR dL_schools_361 rfl ?_
            refine us_iconstC hR dL_schools_363 (c := 0) (by decide) ?_
            refine us_iconstC hR dL_schools_364 (c := 0) (by decide) ?_
            refine us_iconstC hR dL_schools_365 (c := 0) (by decide) ?_
            refine us_iconstC hR dL_schools_366 (c := 0) (by decide) ?_
            refine us_iconstC hR dL_schools_367 (c := 0) (by decide) ?_
            refine us_iconstC hR dL_schools_368 (c := 0) (by decide) ?_
            have hg := gd_c ho
            rw [gd_e hg] at ho
            have hme := hg
            refine us_callSc 8 120 hR dL_schools_369 (y := 13011) (by decide +kernel) (by decide) (J := i13011) rfl rfl rfl rfl (rest := _) (Nat.le_of_ble_eq_true rfl) rfl rfl (Nat.le_of_ble_eq_true rfl) (Nat.le_of_ble_eq_true rfl) ?_
            obtain ⟨q70, hs70⟩ := bO_ex ho
            obtain ⟨T70, r70⟩ := q70
            replace ho := bO_go ho hs70
            refine sh_13011 h268.1 hme hs70 (fun G70 h370 hF70 => ?_)
            have h270 := h268.cls h370 hF70
            obtain ⟨S70, hS70⟩ : ∃ Sz, Sz = lT S68 T70 := ⟨_, rfl⟩
            rw [bS_eq, ← hS70] at ho
            rw [← hS70] at h270
            change R _ [some (.ref x0), some (.ref x1), some (.ref x2), some (.ref x3), some (.ref x4), some (.ref x5), some (.ref x6), some (.int x7), some (.int x8), some (.int r30), some (.int r33), some (.int (xg (S.2 x4) (4 + r33))), some (.int r56), some (.int r57), some (.int r58), some (.int ((8 * r33) + (xg (S.2 x4) (4 + r33)))), some (.int (r59 - 2)), some (.int r61)] _ _ 1284 48360
            refine us_ldc hR dL_schools_372 (v := (-1000002)) (by decide +kernel) ?_
            refine us_icmp_ne hR dL_schools_374 417 (by decide) (fun c71 => ?_) (fun c71 => ?_)
            · rw [if_neg c71] at ho
              change R _ [some (.ref x0), some (.ref x1), some (.ref x2), some (.ref x3), some (.ref x4), some (.ref x5), some (.ref x6), some (.int x7), some (.int x8), some (.int r30), some (.int r33), some (.int (xg (S.2 x4) (4 + r33))), some (.int r56), some (.int r57), some (.int r58), some (.int ((8 * r33) + (xg (S.2 x4) (4 + r33)))), some (.int (r59 - 2)), some (.int r61)] _ _ 1284 48360
              refine us_iconstC hR dL_schools_417 (c := 0) (by decide) ?_
              refine us_iret hR dL_schools_418 rfl (nar01 (Or.inl rfl)) ?_
              cases ho
              exact h _ (Or.inl rfl) h270
            · rw [if_pos c71] at ho
              change R _ [some (.ref x0), some (.ref x1), some (.ref x2), some (.ref x3), some (.ref x4), some (.ref x5), some (.ref x6), some (.int x7), some (.int x8), some (.int r30), some (.int r33), some (.int (xg (S.2 x4) (4 + r33))), some (.int r56), some (.int r57), some (.int r58), some (.int ((8 * r33) + (xg (S.2 x4) (4 + r33)))), some (.int (r59 - 2)), some (.int r61)] _ _ 1284 48360
              refine us_aload_n hR dL_schools_377 rfl ?_
              refine us_iload hR dL_schools_378 rfl ?_
              refine us_iconstC hR dL_schools_380 (c := 1) (by decide) ?_
              refine us_iconstC hR dL_schools_381 (c := 0) (by decide) ?_
              refine us_iconstC hR dL_schools_382 (c := 0) (by decide) ?_
              refine us_iconstC hR dL_schools_383 (c := 3) (by decide) ?_
              refine us_iconstC hR dL_schools_384 (c := 0) (by decide) ?_
              refine us_iconstC hR dL_schools_385 (c := 0) (by decide) ?_
              have hg := gd_c ho
              rw [gd_e hg] at ho
              have hme := hg
              refine us_callSc 8 120 hR dL_schools_386 (y := 13011) (by decide +kernel) (by decide) (J := i13011) rfl rfl rfl rfl (rest := _) (Nat.le_of_ble_eq_true rfl) rfl rfl (Nat.le_of_ble_eq_true rfl) (Nat.le_of_ble_eq_true rfl) ?_
              obtain ⟨q72, hs72⟩ := bO_ex ho
              obtain ⟨T72, r72⟩ := q72
              replace ho := bO_go ho hs72
              refine sh_13011 h270.1 hme hs72 (fun G72 h372 hF72 => ?_)
              have h272 := h270.cls h372 hF72
              obtain ⟨S72, hS72⟩ : ∃ Sz, Sz = lT S70 T72 := ⟨_, rfl⟩
              rw [bS_eq, ← hS72] at ho
              rw [← hS72] at h272
              change R _ [some (.ref x0), some (.ref x1), some (.ref x2), some (.ref x3), some (.ref x4), some (.ref x5), some (.ref x6), some (.int x7), some (.int x8), some (.int r30), some (.int r33), some (.int (xg (S.2 x4) (4 + r33))), some (.int r56), some (.int r57), some (.int r58), some (.int ((8 * r33) + (xg (S.2 x4) (4 + r33)))), some (.int (r59 - 2)), some (.int r61)] _ _ 1276 48240
              refine us_ldc hR dL_schools_389 (v := (-1000002)) (by decide +kernel) ?_
              refine us_icmp_ne hR dL_schools_391 417 (by decide) (fun c73 => ?_) (fun c73 => ?_)
              · rw [if_neg c73] at ho
                change R _ [some (.ref x0), some (.ref x1), some (.ref x2), some (.ref x3), some (.ref x4), some (.ref x5), some (.ref x6), some (.int x7), some (.int x8), some (.int r30), some (.int r33), some (.int (xg (S.2 x4) (4 + r33))), some (.int r56), some (.int r57), some (.int r58), some (.int ((8 * r33) + (xg (S.2 x4) (4 + r33)))), some (.int (r59 - 2)), some (.int r61)] _ _ 1276 48240
                refine us_iconstC hR dL_schools_417 (c := 0) (by decide) ?_
                refine us_iret hR dL_schools_418 rfl (nar01 (Or.inl rfl)) ?_
                cases ho
                exact h _ (Or.inl rfl) h272
              · rw [if_pos c73] at ho
                change R _ [some (.ref x0), some (.ref x1), some (.ref x2), some (.ref x3), some (.ref x4), some (.ref x5), some (.ref x6), some (.int x7), some (.int x8), some (.int r30), some (.int r33), some (.int (xg (S.2 x4) (4 + r33))), some (.int r56), some (.int r57), some (.int r58), some (.int ((8 * r33) + (xg (S.2 x4) (4 + r33)))), some (.int (r59 - 2)), some (.int r61)] _ _ 1276 48240
                refine us_aload_n hR dL_schools_394 rfl ?_
                refine us_aload hR dL_schools_395 rfl ?_
                refine us_iconstC hR dL_schools_397 (c := 0) (by decide) ?_
                have hg := gd_c ho
                rw [gd_e hg] at ho
                refine ul_iaload h272 hg hR dL_schools_398 ?_
                refine us_iconstC hR dL_schools_399 (c := 0) (by decide) ?_
                refine us_iconstC hR dL_schools_400 (c := 0) (by decide) ?_
                refine us_iconstC hR dL_schools_401 (c := 0) (by decide) ?_
                refine us_iconstC hR dL_schools_402 (c := 0) (by decide) ?_
                refine us_iconstC hR dL_schools_403 (c := 0) (by decide) ?_
                refine us_iconstC hR dL_schools_404 (c := 0) (by decide) ?_
                have hg := gd_c ho
                rw [gd_e hg] at ho
                have hme := hg
                refine us_callSc 8 120 hR dL_schools_405 (y := 13011) (by decide +kernel) (by decide) (J := i13011) rfl rfl rfl rfl (rest := _) (Nat.le_of_ble_eq_true rfl) rfl rfl (Nat.le_of_ble_eq_true rfl) (Nat.le_of_ble_eq_true rfl) ?_
                obtain ⟨q74, hs74⟩ := bO_ex ho
                obtain ⟨T74, r74⟩ := q74
                replace ho := bO_go ho hs74
                refine sh_13011 h272.1 hme hs74 (fun G74 h374 hF74 => ?_)
                have h274 := h272.cls h374 hF74
                obtain ⟨S74, hS74⟩ : ∃ Sz, Sz = lT S72 T74 := ⟨_, rfl⟩
                rw [bS_eq, ← hS74] at ho
                rw [← hS74] at h274
                change R _ [some (.ref x0), some (.ref x1), some (.ref x2), some (.ref x3), some (.ref x4), some (.ref x5), some (.ref x6), some (.int x7), some (.int x8), some (.int r30), some (.int r33), some (.int (xg (S.2 x4) (4 + r33))), some (.int r56), some (.int r57), some (.int r58), some (.int ((8 * r33) + (xg (S.2 x4) (4 + r33)))), some (.int (r59 - 2)), some (.int r61)] _ _ 1268 48120
                refine us_ldc hR dL_schools_408 (v := (-1000001)) (by decide +kernel) ?_
                refine us_icmp_ne hR dL_schools_410 417 (by decide) (fun c75 => ?_) (fun c75 => ?_)
                · rw [if_neg c75] at ho
                  change R _ [some (.ref x0), some (.ref x1), some (.ref x2), some (.ref x3), some (.ref x4), some (.ref x5), some (.ref x6), some (.int x7), some (.int x8), some (.int r30), some (.int r33), some (.int (xg (S.2 x4) (4 + r33))), some (.int r56), some (.int r57), some (.int r58), some (.int ((8 * r33) + (xg (S.2 x4) (4 + r33)))), some (.int (r59 - 2)), some (.int r61)] _ _ 1268 48120
                  refine us_iconstC hR dL_schools_417 (c := 0) (by decide) ?_
                  refine us_iret hR dL_schools_418 rfl (nar01 (Or.inl rfl)) ?_
                  cases ho
                  exact h _ (Or.inl rfl) h274
                · rw [if_pos c75] at ho
                  change R _ [some (.ref x0), some (.ref x1), some (.ref x2), some (.ref x3), some (.ref x4), some (.ref x5), some (.ref x6), some (.int x7), some (.int x8), some (.int r30), some (.int r33), some (.int (xg (S.2 x4) (4 + r33))), some (.int r56), some (.int r57), some (.int r58), some (.int ((8 * r33) + (xg (S.2 x4) (4 + r33)))), some (.int (r59 - 2)), some (.int r61)] _ _ 1268 48120
                  refine us_iconstC hR dL_schools_413 (c := 1) (by decide) ?_
                  refine us_goto hR dL_schools_414 418 (by decide) ?_
                  refine us_iret hR dL_schools_418 rfl (nar01 (Or.inr rfl)) ?_
                  cases ho
                  exact h _ (Or.inr rfl) h274
        · rw [if_pos c62] at ho
          change R _ [some (.ref x0), some (.ref x1), some (.ref x2), some (.ref x3), some (.ref x4), some (.ref x5), some (.ref x6), some (.int x7), some (.int x8), some (.int r30), some (.int r33), some (.int (xg (S.2 x4) (4 + r33))), some (.int r56), some (.int r57), some (.int r58), some (.int ((8 * r33) + (xg (S.2 x4) (4 + r33)))), some (.int (r59 - 2)), some (.int r61)] _ _ 1292 48480
          refine us_iload hR dL_schools_278 rfl ?_
          refine us_ldc hR dL_schools_280 (v := (-1000003)) (by decide +kernel) ?_
          refine us_icmp_ne hR dL_schools_282 289 (by decide) (fun c76 => ?_) (fun c76 => ?_)
          · rw [if_neg c76] at ho
            change R _ [some (.ref x0), some (.ref x1), some (.ref x2), some (.ref x3), some (.ref x4), some (.ref x5), some (.ref x6), some (.int x7), some (.int x8), some (.int r30), some (.int r33), some (.int (xg (S.2 x4) (4 + r33))), some (.int r56), some (.int r57), some (.int r58), some (.int ((8 * r33) + (xg (S.2 x4) (4 + r33)))), some (.int (r59 - 2)), some (.int r61)] _ _ 1292 48480
            refine us_iconstC hR dL_schools_289 (c := 0) (by decide) ?_
            refine us_iret hR dL_schools_290 rfl (nar01 (Or.inl rfl)) ?_
            cases ho
            exact h _ (Or.inl rfl) h261
          · rw [if_pos c76] at ho
            change R _ [some (.ref x0), some (.ref x1), some (.ref x2), some (.ref x3), some (.ref x4), some (.ref x5), some (.ref x6), some (.int x7), some (.int x8), some (.int r30), some (.int r33), some (.int (xg (S.2 x4) (4 + r33))), some (.int r56), some (.int r57), some (.int r58), some (.int ((8 * r33) + (xg (S.2 x4) (4 + r33)))), some (.int (r59 - 2)), some (.int r61)] _ _ 1292 48480
            refine us_iconstC hR dL_schools_285 (c := 1) (by decide) ?_
            refine us_goto hR dL_schools_286 290 (by decide) ?_
            refine us_iret hR dL_schools_290 rfl (nar01 (Or.inr rfl)) ?_
            cases ho
            exact h _ (Or.inr rfl) h261
    · rw [if_pos c32] at ho
      exact h13041_J21 x0 x1 x2 x3 x4 x5 x6 x7 x8 r30  S G _ _ h2 ho
end
