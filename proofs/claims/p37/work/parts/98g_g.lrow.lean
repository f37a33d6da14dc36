/-! the law: accusing -/
noncomputable section
set_option maxHeartbeats 2000000 in
set_option maxRecDepth 8000 in
theorem n13040_J414 {d : Nat} {P : ab_Pq} {X : ab_Xq} {o : Lx × Int32} {R : ab_K} (hR : ab_Cl (d + 47) (ab_Gam (d + 47)) (mCi i13040) i13040 0 (fun _ => 0) P X R) (h : ∀ G1, (o.2 = 0 ∨ o.2 = 1) → LRep G1 o.1 → P G1 (some (.int o.2))) : ∀ (l0 : Nat) (l1 : Nat) (l2 : Nat) (l3 : Nat) (l4 : Nat) (l5 : Int32) (l6 : Int32) (l7 : Int32) (l8 : Int32) (l9 : Int32) (l10 : Int32) (l11 : Int32) (l12 : Int32) (l13 : Int32) (l14 : Int32)  (S : Lx) (Ga : ab_G) (bc bs : Nat) (h2 : LRep Ga S) (ho : l_13040_J414 l0 l1 l2 l3 l4 l5 l6 l7 l8 l9 l10 l11 l12 l13 l14 bc bs S = some o), R 414 [some (.ref l0), some (.ref l1), some (.ref l2), some (.ref l3), some (.ref l4), some (.int l5), some (.int l6), some (.int l7), some (.int l8), some (.int l9), some (.int l10), some (.int l11), some (.int l12), some (.int l13), some (.int l14)] [] Ga bc bs := by
  intro l0 l1 l2 l3 l4 l5 l6 l7 l8 l9 l10 l11 l12 l13 l14  S Ga bc bs h2 ho
  unfold l_13040_J414 at ho
  refine us_aload_n hR dL_accuses_414 rfl ?_
  refine us_aload hR dL_accuses_415 rfl ?_
  refine us_iconstC hR dL_accuses_417 (c := 1) (by decide) ?_
  have hg := gd_c ho
  rw [gd_e hg] at ho
  refine ul_iaload h2 hg hR dL_accuses_418 ?_
  refine us_iconstC hR dL_accuses_419 (c := 0) (by decide) ?_
  have hg := gd_c ho
  rw [gd_e hg] at ho
  have hme := hg
  have hb := gd_c ho
  rw [gd_e hb] at ho
  refine us_callSc 18 108 hR dL_accuses_420 (y := 13025) (by decide +kernel) (by decide) (J := i13025) rfl rfl rfl rfl (rest := _) (Nat.le_of_ble_eq_true rfl) rfl rfl hb.1 hb.2 ?_
  obtain ⟨q1, hs1⟩ := bO_ex ho
  obtain ⟨T1, r1⟩ := q1
  replace ho := bO_go ho hs1
  refine sh_13025 h2.1 hme hs1 (fun G1 h31 hF1 => ?_)
  have h21 := h2.cls h31 hF1
  obtain ⟨S1, hS1⟩ : ∃ Sz, Sz = lT S T1 := ⟨_, rfl⟩
  rw [bS_eq, ← hS1] at ho
  rw [← hS1] at h21
  refine us_ldc hR dL_accuses_423 (v := (-1000001)) (by decide +kernel) ?_
  refine us_icmp_ne hR dL_accuses_425 432 (by decide) (fun c2 => ?_) (fun c2 => ?_)
  · rw [if_neg c2] at ho
    refine us_iconstC hR dL_accuses_432 (c := 0) (by decide) ?_
    refine us_iret hR dL_accuses_433 rfl (nar01 (Or.inl rfl)) ?_
    cases ho
    exact h _ (Or.inl rfl) h21
  · rw [if_pos c2] at ho
    refine us_iconstC hR dL_accuses_428 (c := 1) (by decide) ?_
    refine us_goto hR dL_accuses_429 433 (by decide) ?_
    refine us_iret hR dL_accuses_433 rfl (nar01 (Or.inr rfl)) ?_
    cases ho
    exact h _ (Or.inr rfl) h21
set_option maxHeartbeats 2000000 in
set_option maxRecDepth 8000 in
theorem n13040_J397 {d : Nat} {P : ab_Pq} {X : ab_Xq} {o : Lx × Int32} {R : ab_K} (hR : ab_Cl (d + 47) (ab_Gam (d + 47)) (mCi i13040) i13040 0 (fun _ => 0) P X R) (h : ∀ G1, (o.2 = 0 ∨ o.2 = 1) → LRep G1 o.1 → P G1 (some (.int o.2))) : ∀ (l0 : Nat) (l1 : Nat) (l2 : Nat) (l3 : Nat) (l4 : Nat) (l5 : Int32) (l6 : Int32) (l7 : Int32) (l8 : Int32) (l9 : Int32) (l10 : Int32) (l11 : Int32) (l12 : Int32) (l13 : Int32) (l14 : Int32) (k0 : Int32) (k1 : Int32)  (S : Lx) (Ga : ab_G) (bc bs : Nat) (h2 : LRep Ga S) (ho : l_13040_J397 l0 l1 l2 l3 l4 l5 l6 l7 l8 l9 l10 l11 l12 l13 l14 k0 k1 bc bs S = some o), R 397 [some (.ref l0), some (.ref l1), some (.ref l2), some (.ref l3), some (.ref l4), some (.int l5), some (.int l6), some (.int l7), some (.int l8), some (.int l9), some (.int l10), some (.int l11), some (.int l12), some (.int l13), some (.int l14)] [.int k0, .int k1] Ga bc bs := by
  have h13040_J414 := n13040_J414 hR h 
  intro l0 l1 l2 l3 l4 l5 l6 l7 l8 l9 l10 l11 l12 l13 l14 k0 k1  S Ga bc bs h2 ho
  unfold l_13040_J397 at ho
  refine us_icmp_ne hR dL_accuses_397 432 (by decide) (fun c3 => ?_) (fun c3 => ?_)
  · rw [if_neg c3] at ho
    refine us_iconstC hR dL_accuses_432 (c := 0) (by decide) ?_
    refine us_iret hR dL_accuses_433 rfl (nar01 (Or.inl rfl)) ?_
    cases ho
    exact h _ (Or.inl rfl) h2
  · rw [if_pos c3] at ho
    refine us_iload hR dL_accuses_400 rfl ?_
    refine us_if_eq hR dL_accuses_402 414 (by decide) (fun c4 => ?_) (fun c4 => ?_)
    · rw [if_pos c4] at ho
      exact h13040_J414 l0 l1 l2 l3 l4 l5 l6 l7 l8 l9 l10 l11 l12 l13 l14  S Ga _ _ h2 ho
    · rw [if_neg c4] at ho
      refine us_aload_n hR dL_accuses_405 rfl ?_
      refine us_iload hR dL_accuses_406 rfl ?_
      have hg := gd_c ho
      rw [gd_e hg] at ho
      have hme := hg
      have hb := gd_c ho
      rw [gd_e hb] at ho
      refine us_callSc 1 6 hR dL_accuses_408 (y := 13018) (by decide +kernel) (by decide) (J := i13018) rfl rfl rfl rfl (rest := _) (Nat.le_of_ble_eq_true rfl) rfl rfl hb.1 hb.2 ?_
      obtain ⟨r5, hr5⟩ := bP_ex ho
      replace ho := bP_go ho hr5
      refine sh_13018 h2.1 hme hr5 ?_
      refine us_if_ne hR dL_accuses_411 432 (by decide) (fun c6 => ?_) (fun c6 => ?_)
      · rw [if_neg c6] at ho
        refine us_iconstC hR dL_accuses_432 (c := 0) (by decide) ?_
        refine us_iret hR dL_accuses_433 rfl (nar01 (Or.inl rfl)) ?_
        cases ho
        exact h _ (Or.inl rfl) h2
      · rw [if_pos c6] at ho
        exact h13040_J414 l0 l1 l2 l3 l4 l5 l6 l7 l8 l9 l10 l11 l12 l13 l14  S Ga _ _ h2 ho
set_option maxHeartbeats 2000000 in
set_option maxRecDepth 8000 in
theorem n13040_J377 {d : Nat} {P : ab_Pq} {X : ab_Xq} {o : Lx × Int32} {R : ab_K} (hR : ab_Cl (d + 47) (ab_Gam (d + 47)) (mCi i13040) i13040 0 (fun _ => 0) P X R) (h : ∀ G1, (o.2 = 0 ∨ o.2 = 1) → LRep G1 o.1 → P G1 (some (.int o.2))) : ∀ (l0 : Nat) (l1 : Nat) (l2 : Nat) (l3 : Nat) (l4 : Nat) (l5 : Int32) (l6 : Int32) (l7 : Int32) (l8 : Int32) (l9 : Int32) (l10 : Int32) (l11 : Int32) (l12 : Int32) (l13 : Int32) (l14 : Int32)  (S : Lx) (Ga : ab_G) (bc bs : Nat) (h2 : LRep Ga S) (ho : l_13040_J377 l0 l1 l2 l3 l4 l5 l6 l7 l8 l9 l10 l11 l12 l13 l14 bc bs S = some o), R 377 [some (.ref l0), some (.ref l1), some (.ref l2), some (.ref l3), some (.ref l4), some (.int l5), some (.int l6), some (.int l7), some (.int l8), some (.int l9), some (.int l10), some (.int l11), some (.int l12), some (.int l13), some (.int l14)] [] Ga bc bs := by
  have h13040_J397 := n13040_J397 hR h 
  intro l0 l1 l2 l3 l4 l5 l6 l7 l8 l9 l10 l11 l12 l13 l14  S Ga bc bs h2 ho
  unfold l_13040_J377 at ho
  refine us_aload_n hR dL_accuses_377 rfl ?_
  refine us_iload hR dL_accuses_378 rfl ?_
  refine us_iload hR dL_accuses_380 rfl ?_
  have hg := gd_c ho
  rw [gd_e hg] at ho
  have hme := hg
  have hb := gd_c ho
  rw [gd_e hb] at ho
  refine us_callSc 18 108 hR dL_accuses_382 (y := 13025) (by decide +kernel) (by decide) (J := i13025) rfl rfl rfl rfl (rest := _) (Nat.le_of_ble_eq_true rfl) rfl rfl hb.1 hb.2 ?_
  obtain ⟨q7, hs7⟩ := bO_ex ho
  obtain ⟨T7, r7⟩ := q7
  replace ho := bO_go ho hs7
  refine sh_13025 h2.1 hme hs7 (fun G7 h37 hF7 => ?_)
  have h27 := h2.cls h37 hF7
  obtain ⟨S7, hS7⟩ : ∃ Sz, Sz = lT S T7 := ⟨_, rfl⟩
  rw [bS_eq, ← hS7] at ho
  rw [← hS7] at h27
  refine us_iload hR dL_accuses_385 rfl ?_
  refine us_if_eq hR dL_accuses_387 395 (by decide) (fun c8 => ?_) (fun c8 => ?_)
  · rw [if_pos c8] at ho
    refine us_ldc hR dL_accuses_395 (v := (-1000003)) (by decide +kernel) ?_
    exact h13040_J397 l0 l1 l2 l3 l4 l5 l6 l7 l8 l9 l10 l11 l12 l13 l14 (-1000003) r7  S7 G7 _ _ h27 ho
  · rw [if_neg c8] at ho
    refine us_iload hR dL_accuses_390 rfl ?_
    refine us_goto hR dL_accuses_392 397 (by decide) ?_
    exact h13040_J397 l0 l1 l2 l3 l4 l5 l6 l7 l8 l9 l10 l11 l12 l13 l14 l11 r7  S7 G7 _ _ h27 ho
set_option maxHeartbeats 2000000 in
set_option maxRecDepth 8000 in
theorem n13040_J340 {d : Nat} {P : ab_Pq} {X : ab_Xq} {o : Lx × Int32} {R : ab_K} (hR : ab_Cl (d + 47) (ab_Gam (d + 47)) (mCi i13040) i13040 0 (fun _ => 0) P X R) (h : ∀ G1, (o.2 = 0 ∨ o.2 = 1) → LRep G1 o.1 → P G1 (some (.int o.2))) : ∀ (l0 : Nat) (l1 : Nat) (l2 : Nat) (l3 : Nat) (l4 : Nat) (l5 : Int32) (l6 : Int32) (l7 : Int32) (l8 : Int32) (l9 : Int32) (l10 : Int32) (l11 : Int32) (l12 : Int32) (l13 : Int32) (l14 : Int32) (k0 : Int32) (k1 : Int32) (k2 : Int32) (k3 : Nat)  (S : Lx) (Ga : ab_G) (bc bs : Nat) (h2 : LRep Ga S) (ho : l_13040_J340 l0 l1 l2 l3 l4 l5 l6 l7 l8 l9 l10 l11 l12 l13 l14 k0 k1 k2 k3 bc bs S = some o), R 340 [some (.ref l0), some (.ref l1), some (.ref l2), some (.ref l3), some (.ref l4), some (.int l5), some (.int l6), some (.int l7), some (.int l8), some (.int l9), some (.int l10), some (.int l11), some (.int l12), some (.int l13), some (.int l14)] [.int k0, .int k1, .int k2, .ref k3] Ga bc bs := by
  have h13040_J377 := n13040_J377 hR h 
  intro l0 l1 l2 l3 l4 l5 l6 l7 l8 l9 l10 l11 l12 l13 l14 k0 k1 k2 k3  S Ga bc bs h2 ho
  unfold l_13040_J340 at ho
  refine us_iadd hR dL_accuses_340 ?_
  have hg := gd_c ho
  rw [gd_e hg] at ho
  refine ul_iastore h2 hg hR dL_accuses_341 (fun G9 S9 hs9 h29 => ?_)
  rw [← hs9, bS_eq] at ho
  refine us_iload hR dL_accuses_342 rfl ?_
  refine us_if_eq hR dL_accuses_344 432 (by decide) (fun c10 => ?_) (fun c10 => ?_)
  · rw [if_pos c10] at ho
    refine us_iconstC hR dL_accuses_432 (c := 0) (by decide) ?_
    refine us_iret hR dL_accuses_433 rfl (nar01 (Or.inl rfl)) ?_
    cases ho
    exact h _ (Or.inl rfl) h29
  · rw [if_neg c10] at ho
    refine us_iload hR dL_accuses_347 rfl ?_
    refine us_iload hR dL_accuses_349 rfl ?_
    refine us_icmp_ge hR dL_accuses_351 432 (by decide) (fun c11 => ?_) (fun c11 => ?_)
    · rw [if_pos c11] at ho
      refine us_iconstC hR dL_accuses_432 (c := 0) (by decide) ?_
      refine us_iret hR dL_accuses_433 rfl (nar01 (Or.inl rfl)) ?_
      cases ho
      exact h _ (Or.inl rfl) h29
    · rw [if_neg c11] at ho
      refine us_iload hR dL_accuses_354 rfl ?_
      refine us_iconstC hR dL_accuses_356 (c := (-1)) (by decide) ?_
      refine us_icmp_lt hR dL_accuses_357 432 (by decide) (fun c12 => ?_) (fun c12 => ?_)
      · rw [if_pos c12] at ho
        refine us_iconstC hR dL_accuses_432 (c := 0) (by decide) ?_
        refine us_iret hR dL_accuses_433 rfl (nar01 (Or.inl rfl)) ?_
        cases ho
        exact h _ (Or.inl rfl) h29
      · rw [if_neg c12] at ho
        refine us_iload hR dL_accuses_360 rfl ?_
        refine us_if_eq hR dL_accuses_362 377 (by decide) (fun c13 => ?_) (fun c13 => ?_)
        · rw [if_pos c13] at ho
          exact h13040_J377 l0 l1 l2 l3 l4 l5 l6 l7 l8 l9 l10 l11 l12 l13 l14  S9 G9 _ _ h29 ho
        · rw [if_neg c13] at ho
          refine us_iload hR dL_accuses_365 rfl ?_
          refine us_if_lt hR dL_accuses_367 432 (by decide) (fun c14 => ?_) (fun c14 => ?_)
          · rw [if_pos c14] at ho
            refine us_iconstC hR dL_accuses_432 (c := 0) (by decide) ?_
            refine us_iret hR dL_accuses_433 rfl (nar01 (Or.inl rfl)) ?_
            cases ho
            exact h _ (Or.inl rfl) h29
          · rw [if_neg c14] at ho
            refine us_iload hR dL_accuses_370 rfl ?_
            refine us_iload hR dL_accuses_372 rfl ?_
            refine us_icmp_gt hR dL_accuses_374 432 (by decide) (fun c15 => ?_) (fun c15 => ?_)
            · rw [if_pos c15] at ho
              refine us_iconstC hR dL_accuses_432 (c := 0) (by decide) ?_
              refine us_iret hR dL_accuses_433 rfl (nar01 (Or.inl rfl)) ?_
              cases ho
              exact h _ (Or.inl rfl) h29
            · rw [if_neg c15] at ho
              exact h13040_J377 l0 l1 l2 l3 l4 l5 l6 l7 l8 l9 l10 l11 l12 l13 l14  S9 G9 _ _ h29 ho
set_option maxHeartbeats 2000000 in
set_option maxRecDepth 8000 in
theorem n13040_J322 {d : Nat} {P : ab_Pq} {X : ab_Xq} {o : Lx × Int32} {R : ab_K} (hR : ab_Cl (d + 47) (ab_Gam (d + 47)) (mCi i13040) i13040 0 (fun _ => 0) P X R) (h : ∀ G1, (o.2 = 0 ∨ o.2 = 1) → LRep G1 o.1 → P G1 (some (.int o.2))) : ∀ (l0 : Nat) (l1 : Nat) (l2 : Nat) (l3 : Nat) (l4 : Nat) (l5 : Int32) (l6 : Int32) (l7 : Int32) (l8 : Int32) (l9 : Int32) (l10 : Int32) (l11 : Int32) (l12 : Int32) (l13 : Int32) (k0 : Int32)  (S : Lx) (Ga : ab_G) (bc bs : Nat) (h2 : LRep Ga S) (ho : l_13040_J322 l0 l1 l2 l3 l4 l5 l6 l7 l8 l9 l10 l11 l12 l13 k0 bc bs S = some o), R 322 [some (.ref l0), some (.ref l1), some (.ref l2), some (.ref l3), some (.ref l4), some (.int l5), some (.int l6), some (.int l7), some (.int l8), some (.int l9), some (.int l10), some (.int l11), some (.int l12), some (.int l13), none] [.int k0] Ga bc bs := by
  have h13040_J340 := n13040_J340 hR h 
  intro l0 l1 l2 l3 l4 l5 l6 l7 l8 l9 l10 l11 l12 l13 k0  S Ga bc bs h2 ho
  unfold l_13040_J322 at ho
  refine us_istore hR dL_accuses_322 (Nat.le_of_ble_eq_true rfl) ?_
  refine us_aload_n hR dL_accuses_324 rfl ?_
  refine us_iload hR dL_accuses_325 rfl ?_
  refine us_dup2 hR dL_accuses_327 rfl rfl ?_
  have hg := gd_c ho
  rw [gd_e hg] at ho
  refine ul_iaload h2 hg hR dL_accuses_328 ?_
  refine us_iload hR dL_accuses_329 rfl ?_
  refine us_if_eq hR dL_accuses_331 339 (by decide) (fun c16 => ?_) (fun c16 => ?_)
  · rw [if_pos c16] at ho
    refine us_iconstC hR dL_accuses_339 (c := 0) (by decide) ?_
    exact h13040_J340 l0 l1 l2 l3 l4 l5 l6 l7 l8 l9 l10 l11 l12 l13 k0 0 (xg (S.2 l3) l6) l6 l3  S Ga _ _ h2 ho
  · rw [if_neg c16] at ho
    refine us_ldc hR dL_accuses_334 (v := 65536) (by decide +kernel) ?_
    refine us_goto hR dL_accuses_336 340 (by decide) ?_
    exact h13040_J340 l0 l1 l2 l3 l4 l5 l6 l7 l8 l9 l10 l11 l12 l13 k0 65536 (xg (S.2 l3) l6) l6 l3  S Ga _ _ h2 ho
set_option maxHeartbeats 2000000 in
set_option maxRecDepth 8000 in
theorem n13040_J321 {d : Nat} {P : ab_Pq} {X : ab_Xq} {o : Lx × Int32} {R : ab_K} (hR : ab_Cl (d + 47) (ab_Gam (d + 47)) (mCi i13040) i13040 0 (fun _ => 0) P X R) (h : ∀ G1, (o.2 = 0 ∨ o.2 = 1) → LRep G1 o.1 → P G1 (some (.int o.2))) : ∀ (l0 : Nat) (l1 : Nat) (l2 : Nat) (l3 : Nat) (l4 : Nat) (l5 : Int32) (l6 : Int32) (l7 : Int32) (l8 : Int32) (l9 : Int32) (l10 : Int32) (l11 : Int32) (l12 : Int32) (l13 : Int32)  (S : Lx) (Ga : ab_G) (bc bs : Nat) (h2 : LRep Ga S) (ho : l_13040_J321 l0 l1 l2 l3 l4 l5 l6 l7 l8 l9 l10 l11 l12 l13 bc bs S = some o), R 321 [some (.ref l0), some (.ref l1), some (.ref l2), some (.ref l3), some (.ref l4), some (.int l5), some (.int l6), some (.int l7), some (.int l8), some (.int l9), some (.int l10), some (.int l11), some (.int l12), some (.int l13), none] [] Ga bc bs := by
  have h13040_J322 := n13040_J322 hR h 
  intro l0 l1 l2 l3 l4 l5 l6 l7 l8 l9 l10 l11 l12 l13  S Ga bc bs h2 ho
  unfold l_13040_J321 at ho
  refine us_iconstC hR dL_accuses_321 (c := 0) (by decide) ?_
  exact h13040_J322 l0 l1 l2 l3 l4 l5 l6 l7 l8 l9 l10 l11 l12 l13 0  S Ga _ _ h2 ho
set_option maxHeartbeats 2000000 in
set_option maxRecDepth 8000 in
theorem n13040_J301 {d : Nat} {P : ab_Pq} {X : ab_Xq} {o : Lx × Int32} {R : ab_K} (hR : ab_Cl (d + 47) (ab_Gam (d + 47)) (mCi i13040) i13040 0 (fun _ => 0) P X R) (h : ∀ G1, (o.2 = 0 ∨ o.2 = 1) → LRep G1 o.1 → P G1 (some (.int o.2))) : ∀ (l0 : Nat) (l1 : Nat) (l2 : Nat) (l3 : Nat) (l4 : Nat) (l5 : Int32) (l6 : Int32) (l7 : Int32) (l8 : Int32) (l9 : Int32) (l10 : Int32) (l11 : Int32) (l12 : Int32) (k0 : Int32)  (S : Lx) (Ga : ab_G) (bc bs : Nat) (h2 : LRep Ga S) (ho : l_13040_J301 l0 l1 l2 l3 l4 l5 l6 l7 l8 l9 l10 l11 l12 k0 bc bs S = some o), R 301 [some (.ref l0), some (.ref l1), some (.ref l2), some (.ref l3), some (.ref l4), some (.int l5), some (.int l6), some (.int l7), some (.int l8), some (.int l9), some (.int l10), some (.int l11), some (.int l12), none, none] [.int k0] Ga bc bs := by
  have h13040_J322 := n13040_J322 hR h 
  have h13040_J321 := n13040_J321 hR h 
  intro l0 l1 l2 l3 l4 l5 l6 l7 l8 l9 l10 l11 l12 k0  S Ga bc bs h2 ho
  unfold l_13040_J301 at ho
  refine us_istore hR dL_accuses_301 (Nat.le_of_ble_eq_true rfl) ?_
  refine us_iload hR dL_accuses_303 rfl ?_
  refine us_if_eq hR dL_accuses_305 321 (by decide) (fun c17 => ?_) (fun c17 => ?_)
  · rw [if_pos c17] at ho
    exact h13040_J321 l0 l1 l2 l3 l4 l5 l6 l7 l8 l9 l10 l11 l12 k0  S Ga _ _ h2 ho
  · rw [if_neg c17] at ho
    refine us_aload_n hR dL_accuses_308 rfl ?_
    refine us_iload hR dL_accuses_309 rfl ?_
    have hg := gd_c ho
    rw [gd_e hg] at ho
    refine ul_iaload h2 hg hR dL_accuses_311 ?_
    refine us_ldc hR dL_accuses_312 (v := 65536) (by decide +kernel) ?_
    refine us_icmp_ge hR dL_accuses_314 321 (by decide) (fun c18 => ?_) (fun c18 => ?_)
    · rw [if_pos c18] at ho
      exact h13040_J321 l0 l1 l2 l3 l4 l5 l6 l7 l8 l9 l10 l11 l12 k0  S Ga _ _ h2 ho
    · rw [if_neg c18] at ho
      refine us_iconstC hR dL_accuses_317 (c := 1) (by decide) ?_
      refine us_goto hR dL_accuses_318 322 (by decide) ?_
      exact h13040_J322 l0 l1 l2 l3 l4 l5 l6 l7 l8 l9 l10 l11 l12 k0 1  S Ga _ _ h2 ho
set_option maxHeartbeats 2000000 in
set_option maxRecDepth 8000 in
theorem n13040_J300 {d : Nat} {P : ab_Pq} {X : ab_Xq} {o : Lx × Int32} {R : ab_K} (hR : ab_Cl (d + 47) (ab_Gam (d + 47)) (mCi i13040) i13040 0 (fun _ => 0) P X R) (h : ∀ G1, (o.2 = 0 ∨ o.2 = 1) → LRep G1 o.1 → P G1 (some (.int o.2))) : ∀ (l0 : Nat) (l1 : Nat) (l2 : Nat) (l3 : Nat) (l4 : Nat) (l5 : Int32) (l6 : Int32) (l7 : Int32) (l8 : Int32) (l9 : Int32) (l10 : Int32) (l11 : Int32) (l12 : Int32)  (S : Lx) (Ga : ab_G) (bc bs : Nat) (h2 : LRep Ga S) (ho : l_13040_J300 l0 l1 l2 l3 l4 l5 l6 l7 l8 l9 l10 l11 l12 bc bs S = some o), R 300 [some (.ref l0), some (.ref l1), some (.ref l2), some (.ref l3), some (.ref l4), some (.int l5), some (.int l6), some (.int l7), some (.int l8), some (.int l9), some (.int l10), some (.int l11), some (.int l12), none, none] [] Ga bc bs := by
  have h13040_J301 := n13040_J301 hR h 
  intro l0 l1 l2 l3 l4 l5 l6 l7 l8 l9 l10 l11 l12  S Ga bc bs h2 ho
  unfold l_13040_J300 at ho
  refine us_iconstC hR dL_accuses_300 (c := 0) (by decide) ?_
  exact h13040_J301 l0 l1 l2 l3 l4 l5 l6 l7 l8 l9 l10 l11 l12 0  S Ga _ _ h2 ho
set_option maxHeartbeats 2000000 in
set_option maxRecDepth 8000 in
theorem n13040_J224 {d : Nat} {P : ab_Pq} {X : ab_Xq} {o : Lx × Int32} {R : ab_K} (hR : ab_Cl (d + 47) (ab_Gam (d + 47)) (mCi i13040) i13040 0 (fun _ => 0) P X R) (h : ∀ G1, (o.2 = 0 ∨ o.2 = 1) → LRep G1 o.1 → P G1 (some (.int o.2))) : ∀ (l0 : Nat) (l1 : Nat) (l2 : Nat) (l3 : Nat) (l4 : Nat) (l5 : Int32) (l6 : Int32) (l7 : Int32) (l8 : Int32) (l9 : Int32) (l10 : Int32) (l11 : Int32)  (S : Lx) (Ga : ab_G) (bc bs : Nat) (h2 : LRep Ga S) (ho : l_13040_J224 l0 l1 l2 l3 l4 l5 l6 l7 l8 l9 l10 l11 bc bs S = some o), R 224 [some (.ref l0), some (.ref l1), some (.ref l2), some (.ref l3), some (.ref l4), some (.int l5), some (.int l6), some (.int l7), some (.int l8), some (.int l9), some (.int l10), some (.int l11), none, none, none] [] Ga bc bs := by
  have h13040_J301 := n13040_J301 hR h 
  have h13040_J300 := n13040_J300 hR h 
  intro l0 l1 l2 l3 l4 l5 l6 l7 l8 l9 l10 l11  S Ga bc bs h2 ho
  unfold l_13040_J224 at ho
  refine us_aload_n hR dL_accuses_224 rfl ?_
  refine us_iload hR dL_accuses_225 rfl ?_
  have hg := gd_c ho
  rw [gd_e hg] at ho
  have hme := hg
  have hb := gd_c ho
  rw [gd_e hb] at ho
  refine us_callSc 360 2200 hR dL_accuses_227 (y := 13027) (by decide +kernel) (by decide) (J := i13027) rfl rfl rfl rfl (rest := _) (Nat.le_of_ble_eq_true rfl) rfl rfl hb.1 hb.2 ?_
  obtain ⟨r19, hr19⟩ := bP_ex ho
  replace ho := bP_go ho hr19
  refine sh_13027 h2.1 hme hr19 ?_
  refine us_istore hR dL_accuses_230 (Nat.le_of_ble_eq_true rfl) ?_
  refine us_iload hR dL_accuses_232 rfl ?_
  refine us_iload hR dL_accuses_234 rfl ?_
  refine us_icmp_ge hR dL_accuses_236 300 (by decide) (fun c20 => ?_) (fun c20 => ?_)
  · rw [if_pos c20] at ho
    exact h13040_J300 l0 l1 l2 l3 l4 l5 l6 l7 l8 l9 l10 l11 r19  S Ga _ _ h2 ho
  · rw [if_neg c20] at ho
    refine us_aload_n hR dL_accuses_239 rfl ?_
    refine us_iload hR dL_accuses_240 rfl ?_
    have hg := gd_c ho
    rw [gd_e hg] at ho
    refine ul_iaload h2 hg hR dL_accuses_242 ?_
    refine us_bipushC hR dL_accuses_243 (c := 8) (by decide) ?_
    have hg := gd_c ho
    rw [gd_e hg] at ho
    refine us_irem hR dL_accuses_245 hg ?_
    refine us_aload_n hR dL_accuses_246 rfl ?_
    refine us_iload hR dL_accuses_247 rfl ?_
    have hg := gd_c ho
    rw [gd_e hg] at ho
    refine ul_iaload h2 hg hR dL_accuses_249 ?_
    refine us_bipushC hR dL_accuses_250 (c := 8) (by decide) ?_
    have hg := gd_c ho
    rw [gd_e hg] at ho
    refine us_irem hR dL_accuses_252 hg ?_
    refine us_icmp_eq hR dL_accuses_253 300 (by decide) (fun c21 => ?_) (fun c21 => ?_)
    · rw [if_pos c21] at ho
      exact h13040_J300 l0 l1 l2 l3 l4 l5 l6 l7 l8 l9 l10 l11 r19  S Ga _ _ h2 ho
    · rw [if_neg c21] at ho
      refine us_aload_n hR dL_accuses_256 rfl ?_
      refine us_iload hR dL_accuses_257 rfl ?_
      have hg := gd_c ho
      rw [gd_e hg] at ho
      refine ul_iaload h2 hg hR dL_accuses_259 ?_
      refine us_bipushC hR dL_accuses_260 (c := 8) (by decide) ?_
      have hg := gd_c ho
      rw [gd_e hg] at ho
      refine us_idiv hR dL_accuses_262 hg ?_
      refine us_iconstC hR dL_accuses_263 (c := 4) (by decide) ?_
      have hg := gd_c ho
      rw [gd_e hg] at ho
      refine us_irem hR dL_accuses_264 hg ?_
      refine us_aload_n hR dL_accuses_265 rfl ?_
      refine us_iload hR dL_accuses_266 rfl ?_
      have hg := gd_c ho
      rw [gd_e hg] at ho
      refine ul_iaload h2 hg hR dL_accuses_268 ?_
      refine us_bipushC hR dL_accuses_269 (c := 8) (by decide) ?_
      have hg := gd_c ho
      rw [gd_e hg] at ho
      refine us_idiv hR dL_accuses_271 hg ?_
      refine us_iconstC hR dL_accuses_272 (c := 4) (by decide) ?_
      have hg := gd_c ho
      rw [gd_e hg] at ho
      refine us_irem hR dL_accuses_273 hg ?_
      refine us_icmp_ne hR dL_accuses_274 300 (by decide) (fun c22 => ?_) (fun c22 => ?_)
      · rw [if_neg c22] at ho
        exact h13040_J300 l0 l1 l2 l3 l4 l5 l6 l7 l8 l9 l10 l11 r19  S Ga _ _ h2 ho
      · rw [if_pos c22] at ho
        refine us_iload hR dL_accuses_277 rfl ?_
        refine us_iconstC hR dL_accuses_279 (c := 2) (by decide) ?_
        refine us_icmp_le hR dL_accuses_280 300 (by decide) (fun c23 => ?_) (fun c23 => ?_)
        · rw [if_pos c23] at ho
          exact h13040_J300 l0 l1 l2 l3 l4 l5 l6 l7 l8 l9 l10 l11 r19  S Ga _ _ h2 ho
        · rw [if_neg c23] at ho
          refine us_aload_n hR dL_accuses_283 rfl ?_
          refine us_iload hR dL_accuses_284 rfl ?_
          refine us_iload hR dL_accuses_286 rfl ?_
          have hg := gd_c ho
          rw [gd_e hg] at ho
          have hme := hg
          have hb := gd_c ho
          rw [gd_e hb] at ho
          refine us_callSc 6 36 hR dL_accuses_288 (y := 13024) (by decide +kernel) (by decide) (J := i13024) rfl rfl rfl rfl (rest := _) (Nat.le_of_ble_eq_true rfl) rfl rfl hb.1 hb.2 ?_
          obtain ⟨r24, hr24⟩ := bP_ex ho
          replace ho := bP_go ho hr24
          refine sh_13024 h2.1 hme hr24 ?_
          refine us_bipushC hR dL_accuses_291 (c := 79) (by decide) ?_
          refine us_icmp_le hR dL_accuses_293 300 (by decide) (fun c25 => ?_) (fun c25 => ?_)
          · rw [if_pos c25] at ho
            exact h13040_J300 l0 l1 l2 l3 l4 l5 l6 l7 l8 l9 l10 l11 r19  S Ga _ _ h2 ho
          · rw [if_neg c25] at ho
            refine us_iconstC hR dL_accuses_296 (c := 1) (by decide) ?_
            refine us_goto hR dL_accuses_297 301 (by decide) ?_
            exact h13040_J301 l0 l1 l2 l3 l4 l5 l6 l7 l8 l9 l10 l11 r19 1  S Ga _ _ h2 ho
set_option maxHeartbeats 2000000 in
set_option maxRecDepth 8000 in
theorem n13040_J139 {d : Nat} {P : ab_Pq} {X : ab_Xq} {o : Lx × Int32} {R : ab_K} (hR : ab_Cl (d + 47) (ab_Gam (d + 47)) (mCi i13040) i13040 0 (fun _ => 0) P X R) (h : ∀ G1, (o.2 = 0 ∨ o.2 = 1) → LRep G1 o.1 → P G1 (some (.int o.2))) : ∀ (l0 : Nat) (l1 : Nat) (l2 : Nat) (l3 : Nat) (l4 : Nat) (l5 : Int32) (l6 : Int32) (l7 : Int32) (l8 : Int32) (l9 : Int32) (k0 : Int32)  (S : Lx) (Ga : ab_G) (bc bs : Nat) (h2 : LRep Ga S) (ho : l_13040_J139 l0 l1 l2 l3 l4 l5 l6 l7 l8 l9 k0 bc bs S = some o), R 139 [some (.ref l0), some (.ref l1), some (.ref l2), some (.ref l3), some (.ref l4), some (.int l5), some (.int l6), some (.int l7), some (.int l8), some (.int l9), none, none, none, none, none] [.int k0] Ga bc bs := by
  have h13040_J224 := n13040_J224 hR h 
  intro l0 l1 l2 l3 l4 l5 l6 l7 l8 l9 k0  S Ga bc bs h2 ho
  unfold l_13040_J139 at ho
  refine us_istore hR dL_accuses_139 (Nat.le_of_ble_eq_true rfl) ?_
  refine us_aload_n hR dL_accuses_141 rfl ?_
  refine us_aload_n hR dL_accuses_142 rfl ?_
  refine us_aload_n hR dL_accuses_143 rfl ?_
  refine us_aload_n hR dL_accuses_144 rfl ?_
  refine us_iload hR dL_accuses_145 rfl ?_
  refine us_iconstC hR dL_accuses_147 (c := 0) (by decide) ?_
  have hb := gd_c ho
  rw [gd_e hb] at ho
  refine us_callSc 18 108 hR dL_accuses_148 (y := 13037) (by decide +kernel) (by decide) (J := i13037) rfl rfl rfl rfl (rest := _) (Nat.le_of_ble_eq_true rfl) rfl rfl hb.1 hb.2 ?_
  obtain ⟨r26, hr26⟩ := bP_ex ho
  replace ho := bP_go ho hr26
  refine sl_13037 h2 hr26 ?_
  refine us_istore hR dL_accuses_151 (Nat.le_of_ble_eq_true rfl) ?_
  change R _ [some (.ref l0), some (.ref l1), some (.ref l2), some (.ref l3), some (.ref l4), some (.int l5), some (.int l6), some (.int l7), some (.int l8), some (.int l9), some (.int k0), some (.int r26), none, none, none] _ _ _ _
  refine us_aload_n hR dL_accuses_153 rfl ?_
  refine us_iload hR dL_accuses_154 rfl ?_
  have hg := gd_c ho
  rw [gd_e hg] at ho
  refine ul_iaload h2 hg hR dL_accuses_156 ?_
  refine us_ldc hR dL_accuses_157 (v := 65535) (by decide +kernel) ?_
  refine us_icmp_le hR dL_accuses_159 224 (by decide) (fun c27 => ?_) (fun c27 => ?_)
  · rw [if_pos c27] at ho
    exact h13040_J224 l0 l1 l2 l3 l4 l5 l6 l7 l8 l9 k0 r26  S Ga _ _ h2 ho
  · rw [if_neg c27] at ho
    refine us_iload hR dL_accuses_162 rfl ?_
    refine us_bipushC hR dL_accuses_164 (c := 10) (by decide) ?_
    refine us_ishr hR dL_accuses_166 ?_
    refine us_iconstC hR dL_accuses_167 (c := 2) (by decide) ?_
    refine us_callS0 hR dL_accuses_168 (y := 13001) (by decide +kernel) (by decide) (J := i13001) rfl rfl rfl rfl (rest := _) (Nat.le_of_ble_eq_true rfl) rfl rfl ?_
    obtain ⟨r28, hr28⟩ := bP_ex ho
    replace ho := bP_go ho hr28
    refine sh_13001 h2.1 hr28 ?_
    refine us_if_ne hR dL_accuses_171 224 (by decide) (fun c29 => ?_) (fun c29 => ?_)
    · rw [if_neg c29] at ho
      exact h13040_J224 l0 l1 l2 l3 l4 l5 l6 l7 l8 l9 k0 r26  S Ga _ _ h2 ho
    · rw [if_pos c29] at ho
      refine us_aload_n hR dL_accuses_174 rfl ?_
      refine us_iload hR dL_accuses_175 rfl ?_
      refine us_dup2 hR dL_accuses_177 rfl rfl ?_
      have hg := gd_c ho
      rw [gd_e hg] at ho
      refine ul_iaload h2 hg hR dL_accuses_178 ?_
      refine us_ldc hR dL_accuses_179 (v := 65536) (by decide +kernel) ?_
      refine us_isub hR dL_accuses_181 ?_
      have hg := gd_c ho
      rw [gd_e hg] at ho
      refine ul_iastore h2 hg hR dL_accuses_182 (fun G30 S30 hs30 h230 => ?_)
      rw [← hs30, bS_eq] at ho
      refine us_iload hR dL_accuses_183 rfl ?_
      refine us_if_eq hR dL_accuses_185 222 (by decide) (fun c31 => ?_) (fun c31 => ?_)
      · rw [if_pos c31] at ho
        refine us_iconstC hR dL_accuses_222 (c := 0) (by decide) ?_
        refine us_iret hR dL_accuses_223 rfl (nar01 (Or.inl rfl)) ?_
        cases ho
        exact h _ (Or.inl rfl) h230
      · rw [if_neg c31] at ho
        refine us_aload_n hR dL_accuses_188 rfl ?_
        refine us_iload hR dL_accuses_189 rfl ?_
        have hg := gd_c ho
        rw [gd_e hg] at ho
        have hme := hg
        have hb := gd_c ho
        rw [gd_e hb] at ho
        refine us_callSc 2 12 hR dL_accuses_191 (y := 13026) (by decide +kernel) (by decide) (J := i13026) rfl rfl rfl rfl (rest := _) (Nat.le_of_ble_eq_true rfl) rfl rfl hb.1 hb.2 ?_
        obtain ⟨q32, hs32⟩ := bO_ex ho
        obtain ⟨T32, r32⟩ := q32
        replace ho := bO_go ho hs32
        refine sh_13026 h230.1 hme hs32 (fun G32 h332 hF32 => ?_)
        have h232 := h230.cls h332 hF32
        obtain ⟨S32, hS32⟩ : ∃ Sz, Sz = lT S30 T32 := ⟨_, rfl⟩
        rw [bS_eq, ← hS32] at ho
        rw [← hS32] at h232
        refine us_aload_n hR dL_accuses_194 rfl ?_
        refine us_aload_n hR dL_accuses_195 rfl ?_
        refine us_aload_n hR dL_accuses_196 rfl ?_
        refine us_aload_n hR dL_accuses_197 rfl ?_
        refine us_iload hR dL_accuses_198 rfl ?_
        refine us_iconstC hR dL_accuses_200 (c := 0) (by decide) ?_
        have hb := gd_c ho
        rw [gd_e hb] at ho
        refine us_callSc 18 108 hR dL_accuses_201 (y := 13037) (by decide +kernel) (by decide) (J := i13037) rfl rfl rfl rfl (rest := _) (Nat.le_of_ble_eq_true rfl) rfl rfl hb.1 hb.2 ?_
        obtain ⟨r33, hr33⟩ := bP_ex ho
        replace ho := bP_go ho hr33
        refine sl_13037 h232 hr33 ?_
        refine us_icmp_ne hR dL_accuses_204 222 (by decide) (fun c34 => ?_) (fun c34 => ?_)
        · rw [if_neg c34] at ho
          refine us_iconstC hR dL_accuses_222 (c := 0) (by decide) ?_
          refine us_iret hR dL_accuses_223 rfl (nar01 (Or.inl rfl)) ?_
          cases ho
          exact h _ (Or.inl rfl) h232
        · rw [if_pos c34] at ho
          refine us_aload_n hR dL_accuses_207 rfl ?_
          refine us_iload hR dL_accuses_208 rfl ?_
          have hg := gd_c ho
          rw [gd_e hg] at ho
          have hme := hg
          have hb := gd_c ho
          rw [gd_e hb] at ho
          refine us_callSc 2 12 hR dL_accuses_210 (y := 13026) (by decide +kernel) (by decide) (J := i13026) rfl rfl rfl rfl (rest := _) (Nat.le_of_ble_eq_true rfl) rfl rfl hb.1 hb.2 ?_
          obtain ⟨q35, hs35⟩ := bO_ex ho
          obtain ⟨T35, r35⟩ := q35
          replace ho := bO_go ho hs35
          refine sh_13026 h232.1 hme hs35 (fun G35 h335 hF35 => ?_)
          have h235 := h232.cls h335 hF35
          obtain ⟨S35, hS35⟩ : ∃ Sz, Sz = lT S32 T35 := ⟨_, rfl⟩
          rw [bS_eq, ← hS35] at ho
          rw [← hS35] at h235
          refine us_ldc hR dL_accuses_213 (v := (-1000003)) (by decide +kernel) ?_
          refine us_icmp_ne hR dL_accuses_215 222 (by decide) (fun c36 => ?_) (fun c36 => ?_)
          · rw [if_neg c36] at ho
            refine us_iconstC hR dL_accuses_222 (c := 0) (by decide) ?_
            refine us_iret hR dL_accuses_223 rfl (nar01 (Or.inl rfl)) ?_
            cases ho
            exact h _ (Or.inl rfl) h235
          · rw [if_pos c36] at ho
            refine us_iconstC hR dL_accuses_218 (c := 1) (by decide) ?_
            refine us_goto hR dL_accuses_219 223 (by decide) ?_
            refine us_iret hR dL_accuses_223 rfl (nar01 (Or.inr rfl)) ?_
            cases ho
            exact h _ (Or.inr rfl) h235
set_option maxHeartbeats 2000000 in
set_option maxRecDepth 8000 in
theorem n13040_J138 {d : Nat} {P : ab_Pq} {X : ab_Xq} {o : Lx × Int32} {R : ab_K} (hR : ab_Cl (d + 47) (ab_Gam (d + 47)) (mCi i13040) i13040 0 (fun _ => 0) P X R) (h : ∀ G1, (o.2 = 0 ∨ o.2 = 1) → LRep G1 o.1 → P G1 (some (.int o.2))) : ∀ (l0 : Nat) (l1 : Nat) (l2 : Nat) (l3 : Nat) (l4 : Nat) (l5 : Int32) (l6 : Int32) (l7 : Int32) (l8 : Int32) (l9 : Int32)  (S : Lx) (Ga : ab_G) (bc bs : Nat) (h2 : LRep Ga S) (ho : l_13040_J138 l0 l1 l2 l3 l4 l5 l6 l7 l8 l9 bc bs S = some o), R 138 [some (.ref l0), some (.ref l1), some (.ref l2), some (.ref l3), some (.ref l4), some (.int l5), some (.int l6), some (.int l7), some (.int l8), some (.int l9), none, none, none, none, none] [] Ga bc bs := by
  have h13040_J139 := n13040_J139 hR h 
  intro l0 l1 l2 l3 l4 l5 l6 l7 l8 l9  S Ga bc bs h2 ho
  unfold l_13040_J138 at ho
  refine us_iconstC hR dL_accuses_138 (c := 0) (by decide) ?_
  exact h13040_J139 l0 l1 l2 l3 l4 l5 l6 l7 l8 l9 0  S Ga _ _ h2 ho
set_option maxHeartbeats 2000000 in
set_option maxRecDepth 8000 in
theorem n13040_J97 {d : Nat} {P : ab_Pq} {X : ab_Xq} {o : Lx × Int32} {R : ab_K} (hR : ab_Cl (d + 47) (ab_Gam (d + 47)) (mCi i13040) i13040 0 (fun _ => 0) P X R) (h : ∀ G1, (o.2 = 0 ∨ o.2 = 1) → LRep G1 o.1 → P G1 (some (.int o.2))) : ∀ (l0 : Nat) (l1 : Nat) (l2 : Nat) (l3 : Nat) (l4 : Nat) (l5 : Int32) (l6 : Int32) (l7 : Int32) (l8 : Int32) (l9 : Int32) (k0 : Int32) (k1 : Int32)  (S : Lx) (Ga : ab_G) (bc bs : Nat) (h2 : LRep Ga S) (ho : l_13040_J97 l0 l1 l2 l3 l4 l5 l6 l7 l8 l9 k0 k1 bc bs S = some o), R 97 [some (.ref l0), some (.ref l1), some (.ref l2), some (.ref l3), some (.ref l4), some (.int l5), some (.int l6), some (.int l7), some (.int l8), some (.int l9), none, none, none, none, none] [.int k0, .int k1] Ga bc bs := by
  have h13040_J139 := n13040_J139 hR h 
  have h13040_J138 := n13040_J138 hR h 
  intro l0 l1 l2 l3 l4 l5 l6 l7 l8 l9 k0 k1  S Ga bc bs h2 ho
  unfold l_13040_J97 at ho
  refine us_icmp_ne hR dL_accuses_97 138 (by decide) (fun c37 => ?_) (fun c37 => ?_)
  · rw [if_neg c37] at ho
    exact h13040_J138 l0 l1 l2 l3 l4 l5 l6 l7 l8 l9  S Ga _ _ h2 ho
  · rw [if_pos c37] at ho
    refine us_aload_n hR dL_accuses_100 rfl ?_
    refine us_iload hR dL_accuses_101 rfl ?_
    refine us_iload hR dL_accuses_103 rfl ?_
    have hg := gd_c ho
    rw [gd_e hg] at ho
    have hme := hg
    have hb := gd_c ho
    rw [gd_e hb] at ho
    refine us_callSc 6 36 hR dL_accuses_105 (y := 13024) (by decide +kernel) (by decide) (J := i13024) rfl rfl rfl rfl (rest := _) (Nat.le_of_ble_eq_true rfl) rfl rfl hb.1 hb.2 ?_
    obtain ⟨r38, hr38⟩ := bP_ex ho
    replace ho := bP_go ho hr38
    refine sh_13024 h2.1 hme hr38 ?_
    refine us_aload_n hR dL_accuses_108 rfl ?_
    refine us_iload hR dL_accuses_109 rfl ?_
    refine us_iload hR dL_accuses_111 rfl ?_
    have hg := gd_c ho
    rw [gd_e hg] at ho
    have hme := hg
    have hb := gd_c ho
    rw [gd_e hb] at ho
    refine us_callSc 6 36 hR dL_accuses_113 (y := 13024) (by decide +kernel) (by decide) (J := i13024) rfl rfl rfl rfl (rest := _) (Nat.le_of_ble_eq_true rfl) rfl rfl hb.1 hb.2 ?_
    obtain ⟨r39, hr39⟩ := bP_ex ho
    replace ho := bP_go ho hr39
    refine sh_13024 h2.1 hme hr39 ?_
    refine us_icmp_ne hR dL_accuses_116 138 (by decide) (fun c40 => ?_) (fun c40 => ?_)
    · rw [if_neg c40] at ho
      exact h13040_J138 l0 l1 l2 l3 l4 l5 l6 l7 l8 l9  S Ga _ _ h2 ho
    · rw [if_pos c40] at ho
      refine us_aload_n hR dL_accuses_119 rfl ?_
      refine us_iload hR dL_accuses_120 rfl ?_
      refine us_aload hR dL_accuses_122 rfl ?_
      refine us_iconstC hR dL_accuses_124 (c := 1) (by decide) ?_
      have hg := gd_c ho
      rw [gd_e hg] at ho
      refine ul_iaload h2 hg hR dL_accuses_125 ?_
      have hg := gd_c ho
      rw [gd_e hg] at ho
      have hme := hg
      have hb := gd_c ho
      rw [gd_e hb] at ho
      refine us_callSc 3 18 hR dL_accuses_126 (y := 13023) (by decide +kernel) (by decide) (J := i13023) rfl rfl rfl rfl (rest := _) (Nat.le_of_ble_eq_true rfl) rfl rfl hb.1 hb.2 ?_
      obtain ⟨r41, hr41⟩ := bP_ex ho
      replace ho := bP_go ho hr41
      refine sh_13023 h2.1 hme hr41 ?_
      refine us_ldc hR dL_accuses_129 (v := (-1000001)) (by decide +kernel) ?_
      refine us_icmp_ne hR dL_accuses_131 138 (by decide) (fun c42 => ?_) (fun c42 => ?_)
      · rw [if_neg c42] at ho
        exact h13040_J138 l0 l1 l2 l3 l4 l5 l6 l7 l8 l9  S Ga _ _ h2 ho
      · rw [if_pos c42] at ho
        refine us_iconstC hR dL_accuses_134 (c := 1) (by decide) ?_
        refine us_goto hR dL_accuses_135 139 (by decide) ?_
        exact h13040_J139 l0 l1 l2 l3 l4 l5 l6 l7 l8 l9 1  S Ga _ _ h2 ho
set_option maxHeartbeats 2000000 in
set_option maxRecDepth 8000 in
theorem sl_13040 {d : Nat} {G : ab_G} {S : Lx} {P : ab_Pq} {X : ab_Xq} (h2 : LRep G S) {x0 : Nat} {x1 : Nat} {x2 : Nat} {x3 : Nat} {x4 : Nat} {x5 : Int32} {o : Lx × Int32} (ho : l_13040 x0 x1 x2 x3 x4 x5 S = some o) (h : ∀ G1, (o.2 = 0 ∨ o.2 = 1) → LRep G1 o.1 → P G1 (some (.int o.2))) : ab_Gam (d + 48) 13040 [.ref x0, .ref x1, .ref x2, .ref x3, .ref x4, .int x5] G P X := by
  unfold l_13040 at ho
  refine ab_enter (I := i13040) rfl (Nat.le_of_ble_eq_true rfl) (fun R hR => ?_)
  have h13040_J138 := n13040_J138 hR h 
  have h13040_J97 := n13040_J97 hR h 
  change R _ [some (.ref x0), some (.ref x1), some (.ref x2), some (.ref x3), some (.ref x4), some (.int x5), none, none, none, none, none, none, none, none, none] _ _ 520 3200
  refine us_iload hR dL_accuses_0 rfl ?_
  refine us_aload hR dL_accuses_2 rfl ?_
  refine us_iconstC hR dL_accuses_4 (c := 1) (by decide) ?_
  have hg := gd_c ho
  rw [gd_e hg] at ho
  refine ul_iaload h2 hg hR dL_accuses_5 ?_
  refine us_callS0 hR dL_accuses_6 (y := 13001) (by decide +kernel) (by decide) (J := i13001) rfl rfl rfl rfl (rest := _) (Nat.le_of_ble_eq_true rfl) rfl rfl ?_
  obtain ⟨r43, hr43⟩ := bP_ex ho
  replace ho := bP_go ho hr43
  refine sh_13001 h2.1 hr43 ?_
  refine us_istore hR dL_accuses_9 (Nat.le_of_ble_eq_true rfl) ?_
  refine us_iload hR dL_accuses_11 rfl ?_
  refine us_iconstC hR dL_accuses_13 (c := 5) (by decide) ?_
  refine us_ishr hR dL_accuses_14 ?_
  refine us_aload hR dL_accuses_15 rfl ?_
  refine us_iconstC hR dL_accuses_17 (c := 1) (by decide) ?_
  have hg := gd_c ho
  rw [gd_e hg] at ho
  refine ul_iaload h2 hg hR dL_accuses_18 ?_
  refine us_callS0 hR dL_accuses_19 (y := 13001) (by decide +kernel) (by decide) (J := i13001) rfl rfl rfl rfl (rest := _) (Nat.le_of_ble_eq_true rfl) rfl rfl ?_
  obtain ⟨r44, hr44⟩ := bP_ex ho
  replace ho := bP_go ho hr44
  refine sh_13001 h2.1 hr44 ?_
  refine us_istore hR dL_accuses_22 (Nat.le_of_ble_eq_true rfl) ?_
  change R _ [some (.ref x0), some (.ref x1), some (.ref x2), some (.ref x3), some (.ref x4), some (.int x5), some (.int r43), some (.int r44), none, none, none, none, none, none, none] _ _ 520 3200
  refine us_aload_n hR dL_accuses_24 rfl ?_
  refine us_iload hR dL_accuses_25 rfl ?_
  refine us_iload hR dL_accuses_27 rfl ?_
  have hg := gd_c ho
  rw [gd_e hg] at ho
  have hme := hg
  refine us_callSc 3 18 hR dL_accuses_29 (y := 13023) (by decide +kernel) (by decide) (J := i13023) rfl rfl rfl rfl (rest := _) (Nat.le_of_ble_eq_true rfl) rfl rfl (Nat.le_of_ble_eq_true rfl) (Nat.le_of_ble_eq_true rfl) ?_
  obtain ⟨r45, hr45⟩ := bP_ex ho
  replace ho := bP_go ho hr45
  refine sh_13023 h2.1 hme hr45 ?_
  change R _ [some (.ref x0), some (.ref x1), some (.ref x2), some (.ref x3), some (.ref x4), some (.int x5), some (.int r43), some (.int r44), none, none, none, none, none, none, none] _ _ 517 3182
  refine us_istore hR dL_accuses_32 (Nat.le_of_ble_eq_true rfl) ?_
  refine us_aload_n hR dL_accuses_34 rfl ?_
  refine us_iload hR dL_accuses_35 rfl ?_
  have hg := gd_c ho
  rw [gd_e hg] at ho
  have hme := hg
  refine us_callSc 1 6 hR dL_accuses_37 (y := 13022) (by decide +kernel) (by decide) (J := i13022) rfl rfl rfl rfl (rest := _) (Nat.le_of_ble_eq_true rfl) rfl rfl (Nat.le_of_ble_eq_true rfl) (Nat.le_of_ble_eq_true rfl) ?_
  obtain ⟨r46, hr46⟩ := bP_ex ho
  replace ho := bP_go ho hr46
  refine sh_13022 h2.1 hme hr46 ?_
  change R _ [some (.ref x0), some (.ref x1), some (.ref x2), some (.ref x3), some (.ref x4), some (.int x5), some (.int r43), some (.int r44), some (.int r45), none, none, none, none, none, none] _ _ 516 3176
  refine us_aload_n hR dL_accuses_40 rfl ?_
  refine us_iload hR dL_accuses_41 rfl ?_
  have hg := gd_c ho
  rw [gd_e hg] at ho
  have hme := hg
  refine us_callSc 1 6 hR dL_accuses_43 (y := 13022) (by decide +kernel) (by decide) (J := i13022) rfl rfl rfl rfl (rest := _) (Nat.le_of_ble_eq_true rfl) rfl rfl (Nat.le_of_ble_eq_true rfl) (Nat.le_of_ble_eq_true rfl) ?_
  obtain ⟨r47, hr47⟩ := bP_ex ho
  replace ho := bP_go ho hr47
  refine sh_13022 h2.1 hme hr47 ?_
  change R _ [some (.ref x0), some (.ref x1), some (.ref x2), some (.ref x3), some (.ref x4), some (.int x5), some (.int r43), some (.int r44), some (.int r45), none, none, none, none, none, none] _ _ 515 3170
  refine us_iadd hR dL_accuses_46 ?_
  refine us_istore hR dL_accuses_47 (Nat.le_of_ble_eq_true rfl) ?_
  refine us_iload hR dL_accuses_49 rfl ?_
  refine us_aload_n hR dL_accuses_51 rfl ?_
  refine us_iload hR dL_accuses_52 rfl ?_
  refine us_iload hR dL_accuses_54 rfl ?_
  have hg := gd_c ho
  rw [gd_e hg] at ho
  have hme := hg
  refine us_callSc 3 18 hR dL_accuses_56 (y := 13023) (by decide +kernel) (by decide) (J := i13023) rfl rfl rfl rfl (rest := _) (Nat.le_of_ble_eq_true rfl) rfl rfl (Nat.le_of_ble_eq_true rfl) (Nat.le_of_ble_eq_true rfl) ?_
  obtain ⟨r48, hr48⟩ := bP_ex ho
  replace ho := bP_go ho hr48
  refine sh_13023 h2.1 hme hr48 ?_
  change R _ [some (.ref x0), some (.ref x1), some (.ref x2), some (.ref x3), some (.ref x4), some (.int x5), some (.int r43), some (.int r44), some (.int r45), some (.int (r46 + r47)), none, none, none, none, none] _ _ 512 3152
  refine us_icmp_ne hR dL_accuses_59 138 (by decide) (fun c49 => ?_) (fun c49 => ?_)
  · rw [if_neg c49] at ho
    exact h13040_J138 x0 x1 x2 x3 x4 x5 r43 r44 r45 (r46 + r47)  S G _ _ h2 ho
  · rw [if_pos c49] at ho
    change R _ [some (.ref x0), some (.ref x1), some (.ref x2), some (.ref x3), some (.ref x4), some (.int x5), some (.int r43), some (.int r44), some (.int r45), some (.int (r46 + r47)), none, none, none, none, none] _ _ 512 3152
    refine us_iconstC hR dL_accuses_62 (c := 2) (by decide) ?_
    refine us_iload hR dL_accuses_63 rfl ?_
    refine us_imul hR dL_accuses_65 ?_
    refine us_iload hR dL_accuses_66 rfl ?_
    refine us_icmp_gt hR dL_accuses_68 138 (by decide) (fun c50 => ?_) (fun c50 => ?_)
    · rw [if_pos c50] at ho
      exact h13040_J138 x0 x1 x2 x3 x4 x5 r43 r44 r45 (r46 + r47)  S G _ _ h2 ho
    · rw [if_neg c50] at ho
      change R _ [some (.ref x0), some (.ref x1), some (.ref x2), some (.ref x3), some (.ref x4), some (.int x5), some (.int r43), some (.int r44), some (.int r45), some (.int (r46 + r47)), none, none, none, none, none] _ _ 512 3152
      refine us_aload_n hR dL_accuses_71 rfl ?_
      refine us_iload hR dL_accuses_72 rfl ?_
      refine us_iload hR dL_accuses_74 rfl ?_
      have hg := gd_c ho
      rw [gd_e hg] at ho
      have hme := hg
      refine us_callSc 6 36 hR dL_accuses_76 (y := 13024) (by decide +kernel) (by decide) (J := i13024) rfl rfl rfl rfl (rest := _) (Nat.le_of_ble_eq_true rfl) rfl rfl (Nat.le_of_ble_eq_true rfl) (Nat.le_of_ble_eq_true rfl) ?_
      obtain ⟨r51, hr51⟩ := bP_ex ho
      replace ho := bP_go ho hr51
      refine sh_13024 h2.1 hme hr51 ?_
      change R _ [some (.ref x0), some (.ref x1), some (.ref x2), some (.ref x3), some (.ref x4), some (.int x5), some (.int r43), some (.int r44), some (.int r45), some (.int (r46 + r47)), none, none, none, none, none] _ _ 506 3116
      refine us_iload hR dL_accuses_79 rfl ?_
      refine us_if_ne hR dL_accuses_81 88 (by decide) (fun c52 => ?_) (fun c52 => ?_)
      · rw [if_neg c52] at ho
        change R _ [some (.ref x0), some (.ref x1), some (.ref x2), some (.ref x3), some (.ref x4), some (.int x5), some (.int r43), some (.int r44), some (.int r45), some (.int (r46 + r47)), none, none, none, none, none] _ _ 506 3116
        refine us_sipushC hR dL_accuses_88 (c := 200) (by decide) ?_
        refine us_iload hR dL_accuses_91 rfl ?_
        refine us_imul hR dL_accuses_93 ?_
        refine us_iload hR dL_accuses_94 rfl ?_
        have hg := gd_c ho
        rw [gd_e hg] at ho
        refine us_idiv hR dL_accuses_96 hg ?_
        exact h13040_J97 x0 x1 x2 x3 x4 x5 r43 r44 r45 (r46 + r47) ((200 * r45) / (r46 + r47)) r51  S G _ _ h2 ho
      · rw [if_pos c52] at ho
        change R _ [some (.ref x0), some (.ref x1), some (.ref x2), some (.ref x3), some (.ref x4), some (.int x5), some (.int r43), some (.int r44), some (.int r45), some (.int (r46 + r47)), none, none, none, none, none] _ _ 506 3116
        refine us_iconstC hR dL_accuses_84 (c := 0) (by decide) ?_
        refine us_goto hR dL_accuses_85 97 (by decide) ?_
        exact h13040_J97 x0 x1 x2 x3 x4 x5 r43 r44 r45 (r46 + r47) 0 r51  S G _ _ h2 ho
end
