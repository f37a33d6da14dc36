/-! the law: how it tries a draft -/
noncomputable section
set_option maxHeartbeats 2000000 in
set_option maxRecDepth 8000 in
theorem n13035_L404 {d : Nat} {P : ab_Pq} {X : ab_Xq} {o : Lx × Int32} {R : ab_K} (hR : ab_Cl (d + 916) (ab_Gam (d + 916)) (mCi i13035) i13035 0 (fun _ => 0) P X R) (h : ∀ G1, (o.2 = 0 ∨ o.2 = 1) → LRep G1 o.1 → P G1 (some (.int o.2))) : ∀ (n : Nat) (l0 : Nat) (l1 : Int32) (l2 : Int32) (l3 : Int32) (l4 : Int32) (l5 : Int32) (l6 : Int32) (l7 : Nat) (l8 : Nat) (l9 : Int32) (l10 : Int32) (w11 : Option Value) (w12 : Option Value) (S : Lx) (Ga : ab_G) (bc bs : Nat) (h2 : LRep Ga S) (ho : l_13035_L404 n l0 l1 l2 l3 l4 l5 l6 l7 l8 l9 l10 bc bs S = some o), R 404 [some (.ref l0), some (.int l1), some (.int l2), some (.int l3), some (.int l4), some (.int l5), some (.int l6), some (.ref l7), some (.ref l8), some (.int l9), some (.int l10), w11, w12] [] Ga bc bs := by
  intro n
  induction n with
  | zero => intro l0 l1 l2 l3 l4 l5 l6 l7 l8 l9 l10 w11 w12 S Ga bc bs h2 ho; exact absurd ho (by rw [l_13035_L404]; intro hc; cases hc)
  | succ n404 ih404 =>
    intro l0 l1 l2 l3 l4 l5 l6 l7 l8 l9 l10 w11 w12 S Ga bc bs h2 ho
    rw [l_13035_L404] at ho
    refine us_iload hR dL_tries_404 rfl ?_
    refine us_aload_n hR dL_tries_406 rfl ?_
    have hg := gd_c ho
    rw [gd_e hg] at ho
    refine us_callV0 hR dL_tries_407 (y := 11011) (by decide +kernel) (by decide) (J := i11011) rfl rfl rfl rfl (H_kind1 h2.1 hg (by decide)) rfl (Nat.le_of_ble_eq_true rfl) rfl rfl ?_
    obtain ⟨r1, hr1⟩ := bP_ex ho
    replace ho := bP_go ho hr1
    refine sh_11011 h2.1 hr1 ?_
    refine us_icmp_ge hR dL_tries_410 445 (by decide) (fun c2 => ?_) (fun c2 => ?_)
    · rw [if_pos c2] at ho
      refine us_iload hR dL_tries_445 rfl ?_
      have hg := gd_c ho
      rw [gd_e hg] at ho
      refine us_iret hR dL_tries_447 rfl (nar01 hg) ?_
      cases ho
      exact h _ hg h2
    · rw [if_neg c2] at ho
      refine us_iload hR dL_tries_413 rfl ?_
      refine us_if_eq hR dL_tries_415 436 (by decide) (fun c3 => ?_) (fun c3 => ?_)
      · rw [if_pos c3] at ho
        refine us_iconstC hR dL_tries_436 (c := 0) (by decide) ?_
        refine us_istore hR dL_tries_437 (Nat.le_of_ble_eq_true rfl) ?_
        refine us_iincC hR dL_tries_439 rfl (Nat.le_of_ble_eq_true rfl) (c := 1) (by decide) ?_
        change R _ [some (.ref l0), some (.int l1), some (.int l2), some (.int l3), some (.int l4), some (.int l5), some (.int l6), some (.ref l7), some (.ref l8), some (.int 0), some (.int (l10 + 1)), _, _] _ _ _ _
        refine us_goto hR dL_tries_442 404 (by decide) ?_
        exact ih404 l0 l1 l2 l3 l4 l5 l6 l7 l8 0 (l10 + 1) _ _ S Ga _ _ h2 ho
      · rw [if_neg c3] at ho
        refine us_aload_n hR dL_tries_418 rfl ?_
        refine us_iload hR dL_tries_419 rfl ?_
        have hg := gd_c ho
        rw [gd_e hg] at ho
        have hme := hg
        have hb := gd_c ho
        rw [gd_e hb] at ho
        refine us_callSc 1 6 hR dL_tries_421 (y := 13008) (by decide +kernel) (by decide) (J := i13008) rfl rfl rfl rfl (rest := _) (Nat.le_of_ble_eq_true rfl) rfl rfl hb.1 hb.2 ?_
        obtain ⟨r4, hr4⟩ := bP_ex ho
        replace ho := bP_go ho hr4
        refine sh_13008 h2.1 hme hr4 ?_
        refine us_aload hR dL_tries_424 rfl ?_
        refine us_iload hR dL_tries_426 rfl ?_
        have hg := gd_c ho
        rw [gd_e hg] at ho
        refine ul_iaload h2 hg hR dL_tries_428 ?_
        refine us_icmp_ne hR dL_tries_429 436 (by decide) (fun c5 => ?_) (fun c5 => ?_)
        · rw [if_neg c5] at ho
          refine us_iconstC hR dL_tries_436 (c := 0) (by decide) ?_
          refine us_istore hR dL_tries_437 (Nat.le_of_ble_eq_true rfl) ?_
          refine us_iincC hR dL_tries_439 rfl (Nat.le_of_ble_eq_true rfl) (c := 1) (by decide) ?_
          change R _ [some (.ref l0), some (.int l1), some (.int l2), some (.int l3), some (.int l4), some (.int l5), some (.int l6), some (.ref l7), some (.ref l8), some (.int 0), some (.int (l10 + 1)), _, _] _ _ _ _
          refine us_goto hR dL_tries_442 404 (by decide) ?_
          exact ih404 l0 l1 l2 l3 l4 l5 l6 l7 l8 0 (l10 + 1) _ _ S Ga _ _ h2 ho
        · rw [if_pos c5] at ho
          refine us_iconstC hR dL_tries_432 (c := 1) (by decide) ?_
          refine us_goto hR dL_tries_433 437 (by decide) ?_
          refine us_istore hR dL_tries_437 (Nat.le_of_ble_eq_true rfl) ?_
          refine us_iincC hR dL_tries_439 rfl (Nat.le_of_ble_eq_true rfl) (c := 1) (by decide) ?_
          change R _ [some (.ref l0), some (.int l1), some (.int l2), some (.int l3), some (.int l4), some (.int l5), some (.int l6), some (.ref l7), some (.ref l8), some (.int 1), some (.int (l10 + 1)), _, _] _ _ _ _
          refine us_goto hR dL_tries_442 404 (by decide) ?_
          exact ih404 l0 l1 l2 l3 l4 l5 l6 l7 l8 1 (l10 + 1) _ _ S Ga _ _ h2 ho
set_option maxHeartbeats 2000000 in
set_option maxRecDepth 8000 in
theorem n13035_J351 {d : Nat} {P : ab_Pq} {X : ab_Xq} {o : Lx × Int32} {R : ab_K} (hR : ab_Cl (d + 916) (ab_Gam (d + 916)) (mCi i13035) i13035 0 (fun _ => 0) P X R) (h : ∀ G1, (o.2 = 0 ∨ o.2 = 1) → LRep G1 o.1 → P G1 (some (.int o.2))) : ∀ (l0 : Nat) (l1 : Int32) (l2 : Int32) (l3 : Int32) (l4 : Int32) (l5 : Int32) (l6 : Int32) (l7 : Nat) (l8 : Nat) (l9 : Int32) (l10 : Int32) (w11 : Option Value) (w12 : Option Value) (S : Lx) (Ga : ab_G) (bc bs : Nat) (h2 : LRep Ga S) (ho : l_13035_J351 l0 l1 l2 l3 l4 l5 l6 l7 l8 l9 l10 bc bs S = some o), R 351 [some (.ref l0), some (.int l1), some (.int l2), some (.int l3), some (.int l4), some (.int l5), some (.int l6), some (.ref l7), some (.ref l8), some (.int l9), some (.int l10), w11, w12] [] Ga bc bs := by
  have h13035_L404 := n13035_L404 hR h 
  intro l0 l1 l2 l3 l4 l5 l6 l7 l8 l9 l10 w11 w12 S Ga bc bs h2 ho
  unfold l_13035_J351 at ho
  refine us_iload hR dL_tries_351 rfl ?_
  refine us_if_eq hR dL_tries_353 445 (by decide) (fun c6 => ?_) (fun c6 => ?_)
  · rw [if_pos c6] at ho
    refine us_iload hR dL_tries_445 rfl ?_
    have hg := gd_c ho
    rw [gd_e hg] at ho
    refine us_iret hR dL_tries_447 rfl (nar01 hg) ?_
    cases ho
    exact h _ hg h2
  · rw [if_neg c6] at ho
    refine us_iload_n hR dL_tries_356 rfl ?_
    refine us_iload hR dL_tries_357 rfl ?_
    refine us_icmp_le hR dL_tries_359 445 (by decide) (fun c7 => ?_) (fun c7 => ?_)
    · rw [if_pos c7] at ho
      refine us_iload hR dL_tries_445 rfl ?_
      have hg := gd_c ho
      rw [gd_e hg] at ho
      refine us_iret hR dL_tries_447 rfl (nar01 hg) ?_
      cases ho
      exact h _ hg h2
    · rw [if_neg c7] at ho
      refine us_aload_n hR dL_tries_362 rfl ?_
      refine us_iload_n hR dL_tries_363 rfl ?_
      refine us_iload hR dL_tries_364 rfl ?_
      refine us_isub hR dL_tries_366 ?_
      refine us_iconstC hR dL_tries_367 (c := 1) (by decide) ?_
      refine us_isub hR dL_tries_368 ?_
      refine us_iload_n hR dL_tries_369 rfl ?_
      refine us_iload_n hR dL_tries_370 rfl ?_
      have hg := gd_c ho
      rw [gd_e hg] at ho
      have hme := hg
      have hb := gd_c ho
      rw [gd_e hb] at ho
      refine us_callSc 42 3712 hR dL_tries_371 (y := 13006) (by decide +kernel) (by decide) (J := i13006) rfl rfl rfl rfl (rest := _) (Nat.le_of_ble_eq_true rfl) rfl rfl hb.1 hb.2 ?_
      obtain ⟨q8, hs8⟩ := bO_ex ho
      obtain ⟨T8, r8⟩ := q8
      replace ho := bO_go ho hs8
      refine sh_13006 h2.1 hme hs8 (fun G8 h38 hF8 => ?_)
      have h28 := h2.cls h38 hF8
      obtain ⟨S8, hS8⟩ : ∃ Sz, Sz = lT S T8 := ⟨_, rfl⟩
      rw [bS_eq, ← hS8] at ho
      rw [← hS8] at h28
      refine us_iconstC hR dL_tries_374 (c := 1) (by decide) ?_
      refine us_icmp_ne hR dL_tries_375 398 (by decide) (fun c9 => ?_) (fun c9 => ?_)
      · rw [if_neg c9] at ho
        refine us_iconstC hR dL_tries_398 (c := 0) (by decide) ?_
        refine us_istore hR dL_tries_399 (Nat.le_of_ble_eq_true rfl) ?_
        refine us_iconstC hR dL_tries_401 (c := 0) (by decide) ?_
        refine us_istore hR dL_tries_402 (Nat.le_of_ble_eq_true rfl) ?_
        exact h13035_L404 _ l0 l1 l2 l3 l4 l5 l6 l7 l8 0 0 _ _ S8 G8 _ _ h28 ho
      · rw [if_pos c9] at ho
        refine us_aload_n hR dL_tries_378 rfl ?_
        have hg := gd_c ho
        rw [gd_e hg] at ho
        refine us_callV0 hR dL_tries_379 (y := 11013) (by decide +kernel) (by decide) (J := i11013) rfl rfl rfl rfl (H_kind1 h28.1 hg (by decide)) rfl (Nat.le_of_ble_eq_true rfl) rfl rfl ?_
        obtain ⟨r10, hr10⟩ := bP_ex ho
        replace ho := bP_go ho hr10
        refine sh_11013 h28.1 hr10 ?_
        refine us_if_ne hR dL_tries_382 398 (by decide) (fun c11 => ?_) (fun c11 => ?_)
        · rw [if_neg c11] at ho
          refine us_iconstC hR dL_tries_398 (c := 0) (by decide) ?_
          refine us_istore hR dL_tries_399 (Nat.le_of_ble_eq_true rfl) ?_
          refine us_iconstC hR dL_tries_401 (c := 0) (by decide) ?_
          refine us_istore hR dL_tries_402 (Nat.le_of_ble_eq_true rfl) ?_
          exact h13035_L404 _ l0 l1 l2 l3 l4 l5 l6 l7 l8 0 0 _ _ S8 G8 _ _ h28 ho
        · rw [if_pos c11] at ho
          refine us_aload_n hR dL_tries_385 rfl ?_
          have hg := gd_c ho
          rw [gd_e hg] at ho
          refine us_callV0 hR dL_tries_386 (y := 11011) (by decide +kernel) (by decide) (J := i11011) rfl rfl rfl rfl (H_kind1 h28.1 hg (by decide)) rfl (Nat.le_of_ble_eq_true rfl) rfl rfl ?_
          obtain ⟨r12, hr12⟩ := bP_ex ho
          replace ho := bP_go ho hr12
          refine sh_11011 h28.1 hr12 ?_
          refine us_iload hR dL_tries_389 rfl ?_
          refine us_icmp_gt hR dL_tries_391 398 (by decide) (fun c13 => ?_) (fun c13 => ?_)
          · rw [if_pos c13] at ho
            refine us_iconstC hR dL_tries_398 (c := 0) (by decide) ?_
            refine us_istore hR dL_tries_399 (Nat.le_of_ble_eq_true rfl) ?_
            refine us_iconstC hR dL_tries_401 (c := 0) (by decide) ?_
            refine us_istore hR dL_tries_402 (Nat.le_of_ble_eq_true rfl) ?_
            exact h13035_L404 _ l0 l1 l2 l3 l4 l5 l6 l7 l8 0 0 _ _ S8 G8 _ _ h28 ho
          · rw [if_neg c13] at ho
            refine us_iconstC hR dL_tries_394 (c := 1) (by decide) ?_
            refine us_goto hR dL_tries_395 399 (by decide) ?_
            refine us_istore hR dL_tries_399 (Nat.le_of_ble_eq_true rfl) ?_
            refine us_iconstC hR dL_tries_401 (c := 0) (by decide) ?_
            refine us_istore hR dL_tries_402 (Nat.le_of_ble_eq_true rfl) ?_
            exact h13035_L404 _ l0 l1 l2 l3 l4 l5 l6 l7 l8 1 0 _ _ S8 G8 _ _ h28 ho
set_option maxHeartbeats 2000000 in
set_option maxRecDepth 8000 in
theorem n13035_L306 {d : Nat} {P : ab_Pq} {X : ab_Xq} {o : Lx × Int32} {R : ab_K} (hR : ab_Cl (d + 916) (ab_Gam (d + 916)) (mCi i13035) i13035 0 (fun _ => 0) P X R) (h : ∀ G1, (o.2 = 0 ∨ o.2 = 1) → LRep G1 o.1 → P G1 (some (.int o.2))) {n175 : Nat} (ih175 : ∀ (l0 : Nat) (l1 : Int32) (l2 : Int32) (l3 : Int32) (l4 : Int32) (l5 : Int32) (l6 : Int32) (l7 : Nat) (l8 : Nat) (l9 : Int32) (l10 : Int32) (w11 : Option Value) (w12 : Option Value) (S : Lx) (Ga : ab_G) (bc bs : Nat) (h2 : LRep Ga S) (ho : l_13035_L175 n175 l0 l1 l2 l3 l4 l5 l6 l7 l8 l9 l10 bc bs S = some o), R 175 [some (.ref l0), some (.int l1), some (.int l2), some (.int l3), some (.int l4), some (.int l5), some (.int l6), some (.ref l7), some (.ref l8), some (.int l9), some (.int l10), w11, w12] [] Ga bc bs) : ∀ (n : Nat) (l0 : Nat) (l1 : Int32) (l2 : Int32) (l3 : Int32) (l4 : Int32) (l5 : Int32) (l6 : Int32) (l7 : Nat) (l8 : Nat) (l9 : Int32) (l10 : Int32) (l11 : Int32) (l12 : Int32)  (S : Lx) (Ga : ab_G) (bc bs : Nat) (h2 : LRep Ga S) (ho : l_13035_L306 (l_13035_L175 n175) n l0 l1 l2 l3 l4 l5 l6 l7 l8 l9 l10 l11 l12 bc bs S = some o), R 306 [some (.ref l0), some (.int l1), some (.int l2), some (.int l3), some (.int l4), some (.int l5), some (.int l6), some (.ref l7), some (.ref l8), some (.int l9), some (.int l10), some (.int l11), some (.int l12)] [] Ga bc bs := by
  intro n
  induction n with
  | zero => intro l0 l1 l2 l3 l4 l5 l6 l7 l8 l9 l10 l11 l12  S Ga bc bs h2 ho; exact absurd ho (by rw [l_13035_L306]; intro hc; cases hc)
  | succ n306 ih306 =>
    intro l0 l1 l2 l3 l4 l5 l6 l7 l8 l9 l10 l11 l12  S Ga bc bs h2 ho
    rw [l_13035_L306] at ho
    refine us_iload hR dL_tries_306 rfl ?_
    refine us_bipushC hR dL_tries_308 (c := 32) (by decide) ?_
    refine us_icmp_ge hR dL_tries_310 345 (by decide) (fun c14 => ?_) (fun c14 => ?_)
    · rw [if_pos c14] at ho
      refine us_iincC hR dL_tries_345 rfl (Nat.le_of_ble_eq_true rfl) (c := 1) (by decide) ?_
      refine us_goto hR dL_tries_348 175 (by decide) ?_
      exact ih175 l0 l1 l2 l3 l4 l5 l6 l7 l8 l9 (l10 + 1) _ _ S Ga _ _ h2 ho
    · rw [if_neg c14] at ho
      refine us_iload hR dL_tries_313 rfl ?_
      refine us_if_eq hR dL_tries_315 336 (by decide) (fun c15 => ?_) (fun c15 => ?_)
      · rw [if_pos c15] at ho
        refine us_iconstC hR dL_tries_336 (c := 0) (by decide) ?_
        refine us_istore hR dL_tries_337 (Nat.le_of_ble_eq_true rfl) ?_
        refine us_iincC hR dL_tries_339 rfl (Nat.le_of_ble_eq_true rfl) (c := 1) (by decide) ?_
        change R _ [some (.ref l0), some (.int l1), some (.int l2), some (.int l3), some (.int l4), some (.int l5), some (.int l6), some (.ref l7), some (.ref l8), some (.int 0), some (.int l10), some (.int l11), some (.int (l12 + 1))] _ _ _ _
        refine us_goto hR dL_tries_342 306 (by decide) ?_
        exact ih306 l0 l1 l2 l3 l4 l5 l6 l7 l8 0 l10 l11 (l12 + 1)  S Ga _ _ h2 ho
      · rw [if_neg c15] at ho
        refine us_aload_n hR dL_tries_318 rfl ?_
        refine us_iload hR dL_tries_319 rfl ?_
        have hg := gd_c ho
        rw [gd_e hg] at ho
        have hme := hg
        have hb := gd_c ho
        rw [gd_e hb] at ho
        refine us_callSc 1 6 hR dL_tries_321 (y := 13009) (by decide +kernel) (by decide) (J := i13009) rfl rfl rfl rfl (rest := _) (Nat.le_of_ble_eq_true rfl) rfl rfl hb.1 hb.2 ?_
        obtain ⟨r16, hr16⟩ := bP_ex ho
        replace ho := bP_go ho hr16
        refine sh_13009 h2.1 hme hr16 ?_
        refine us_aload hR dL_tries_324 rfl ?_
        refine us_iload hR dL_tries_326 rfl ?_
        have hg := gd_c ho
        rw [gd_e hg] at ho
        refine ul_iaload h2 hg hR dL_tries_328 ?_
        refine us_icmp_ne hR dL_tries_329 336 (by decide) (fun c17 => ?_) (fun c17 => ?_)
        · rw [if_neg c17] at ho
          refine us_iconstC hR dL_tries_336 (c := 0) (by decide) ?_
          refine us_istore hR dL_tries_337 (Nat.le_of_ble_eq_true rfl) ?_
          refine us_iincC hR dL_tries_339 rfl (Nat.le_of_ble_eq_true rfl) (c := 1) (by decide) ?_
          change R _ [some (.ref l0), some (.int l1), some (.int l2), some (.int l3), some (.int l4), some (.int l5), some (.int l6), some (.ref l7), some (.ref l8), some (.int 0), some (.int l10), some (.int l11), some (.int (l12 + 1))] _ _ _ _
          refine us_goto hR dL_tries_342 306 (by decide) ?_
          exact ih306 l0 l1 l2 l3 l4 l5 l6 l7 l8 0 l10 l11 (l12 + 1)  S Ga _ _ h2 ho
        · rw [if_pos c17] at ho
          refine us_iconstC hR dL_tries_332 (c := 1) (by decide) ?_
          refine us_goto hR dL_tries_333 337 (by decide) ?_
          refine us_istore hR dL_tries_337 (Nat.le_of_ble_eq_true rfl) ?_
          refine us_iincC hR dL_tries_339 rfl (Nat.le_of_ble_eq_true rfl) (c := 1) (by decide) ?_
          change R _ [some (.ref l0), some (.int l1), some (.int l2), some (.int l3), some (.int l4), some (.int l5), some (.int l6), some (.ref l7), some (.ref l8), some (.int 1), some (.int l10), some (.int l11), some (.int (l12 + 1))] _ _ _ _
          refine us_goto hR dL_tries_342 306 (by decide) ?_
          exact ih306 l0 l1 l2 l3 l4 l5 l6 l7 l8 1 l10 l11 (l12 + 1)  S Ga _ _ h2 ho
set_option maxHeartbeats 2000000 in
set_option maxRecDepth 8000 in
theorem n13035_L264 {d : Nat} {P : ab_Pq} {X : ab_Xq} {o : Lx × Int32} {R : ab_K} (hR : ab_Cl (d + 916) (ab_Gam (d + 916)) (mCi i13035) i13035 0 (fun _ => 0) P X R) (h : ∀ G1, (o.2 = 0 ∨ o.2 = 1) → LRep G1 o.1 → P G1 (some (.int o.2))) {n175 : Nat} (ih175 : ∀ (l0 : Nat) (l1 : Int32) (l2 : Int32) (l3 : Int32) (l4 : Int32) (l5 : Int32) (l6 : Int32) (l7 : Nat) (l8 : Nat) (l9 : Int32) (l10 : Int32) (w11 : Option Value) (w12 : Option Value) (S : Lx) (Ga : ab_G) (bc bs : Nat) (h2 : LRep Ga S) (ho : l_13035_L175 n175 l0 l1 l2 l3 l4 l5 l6 l7 l8 l9 l10 bc bs S = some o), R 175 [some (.ref l0), some (.int l1), some (.int l2), some (.int l3), some (.int l4), some (.int l5), some (.int l6), some (.ref l7), some (.ref l8), some (.int l9), some (.int l10), w11, w12] [] Ga bc bs) : ∀ (n : Nat) (l0 : Nat) (l1 : Int32) (l2 : Int32) (l3 : Int32) (l4 : Int32) (l5 : Int32) (l6 : Int32) (l7 : Nat) (l8 : Nat) (l9 : Int32) (l10 : Int32) (l11 : Int32) (l12 : Int32)  (S : Lx) (Ga : ab_G) (bc bs : Nat) (h2 : LRep Ga S) (ho : l_13035_L264 (l_13035_L175 n175) n l0 l1 l2 l3 l4 l5 l6 l7 l8 l9 l10 l11 l12 bc bs S = some o), R 264 [some (.ref l0), some (.int l1), some (.int l2), some (.int l3), some (.int l4), some (.int l5), some (.int l6), some (.ref l7), some (.ref l8), some (.int l9), some (.int l10), some (.int l11), some (.int l12)] [] Ga bc bs := by
  have h13035_L306 := n13035_L306 hR h ih175
  intro n
  induction n with
  | zero => intro l0 l1 l2 l3 l4 l5 l6 l7 l8 l9 l10 l11 l12  S Ga bc bs h2 ho; exact absurd ho (by rw [l_13035_L264]; intro hc; cases hc)
  | succ n264 ih264 =>
    intro l0 l1 l2 l3 l4 l5 l6 l7 l8 l9 l10 l11 l12  S Ga bc bs h2 ho
    rw [l_13035_L264] at ho
    refine us_iload hR dL_tries_264 rfl ?_
    refine us_iload hR dL_tries_266 rfl ?_
    refine us_icmp_ge hR dL_tries_268 303 (by decide) (fun c18 => ?_) (fun c18 => ?_)
    · rw [if_pos c18] at ho
      refine us_iconstC hR dL_tries_303 (c := 0) (by decide) ?_
      refine us_istore hR dL_tries_304 (Nat.le_of_ble_eq_true rfl) ?_
      exact h13035_L306 _ l0 l1 l2 l3 l4 l5 l6 l7 l8 l9 l10 l11 0  S Ga _ _ h2 ho
    · rw [if_neg c18] at ho
      refine us_iload hR dL_tries_271 rfl ?_
      refine us_if_eq hR dL_tries_273 294 (by decide) (fun c19 => ?_) (fun c19 => ?_)
      · rw [if_pos c19] at ho
        refine us_iconstC hR dL_tries_294 (c := 0) (by decide) ?_
        refine us_istore hR dL_tries_295 (Nat.le_of_ble_eq_true rfl) ?_
        refine us_iincC hR dL_tries_297 rfl (Nat.le_of_ble_eq_true rfl) (c := 1) (by decide) ?_
        change R _ [some (.ref l0), some (.int l1), some (.int l2), some (.int l3), some (.int l4), some (.int l5), some (.int l6), some (.ref l7), some (.ref l8), some (.int 0), some (.int l10), some (.int l11), some (.int (l12 + 1))] _ _ _ _
        refine us_goto hR dL_tries_300 264 (by decide) ?_
        exact ih264 l0 l1 l2 l3 l4 l5 l6 l7 l8 0 l10 l11 (l12 + 1)  S Ga _ _ h2 ho
      · rw [if_neg c19] at ho
        refine us_aload_n hR dL_tries_276 rfl ?_
        refine us_iload hR dL_tries_277 rfl ?_
        have hg := gd_c ho
        rw [gd_e hg] at ho
        have hme := hg
        have hb := gd_c ho
        rw [gd_e hb] at ho
        refine us_callSc 1 6 hR dL_tries_279 (y := 13008) (by decide +kernel) (by decide) (J := i13008) rfl rfl rfl rfl (rest := _) (Nat.le_of_ble_eq_true rfl) rfl rfl hb.1 hb.2 ?_
        obtain ⟨r20, hr20⟩ := bP_ex ho
        replace ho := bP_go ho hr20
        refine sh_13008 h2.1 hme hr20 ?_
        refine us_aload hR dL_tries_282 rfl ?_
        refine us_iload hR dL_tries_284 rfl ?_
        have hg := gd_c ho
        rw [gd_e hg] at ho
        refine ul_iaload h2 hg hR dL_tries_286 ?_
        refine us_icmp_ne hR dL_tries_287 294 (by decide) (fun c21 => ?_) (fun c21 => ?_)
        · rw [if_neg c21] at ho
          refine us_iconstC hR dL_tries_294 (c := 0) (by decide) ?_
          refine us_istore hR dL_tries_295 (Nat.le_of_ble_eq_true rfl) ?_
          refine us_iincC hR dL_tries_297 rfl (Nat.le_of_ble_eq_true rfl) (c := 1) (by decide) ?_
          change R _ [some (.ref l0), some (.int l1), some (.int l2), some (.int l3), some (.int l4), some (.int l5), some (.int l6), some (.ref l7), some (.ref l8), some (.int 0), some (.int l10), some (.int l11), some (.int (l12 + 1))] _ _ _ _
          refine us_goto hR dL_tries_300 264 (by decide) ?_
          exact ih264 l0 l1 l2 l3 l4 l5 l6 l7 l8 0 l10 l11 (l12 + 1)  S Ga _ _ h2 ho
        · rw [if_pos c21] at ho
          refine us_iconstC hR dL_tries_290 (c := 1) (by decide) ?_
          refine us_goto hR dL_tries_291 295 (by decide) ?_
          refine us_istore hR dL_tries_295 (Nat.le_of_ble_eq_true rfl) ?_
          refine us_iincC hR dL_tries_297 rfl (Nat.le_of_ble_eq_true rfl) (c := 1) (by decide) ?_
          change R _ [some (.ref l0), some (.int l1), some (.int l2), some (.int l3), some (.int l4), some (.int l5), some (.int l6), some (.ref l7), some (.ref l8), some (.int 1), some (.int l10), some (.int l11), some (.int (l12 + 1))] _ _ _ _
          refine us_goto hR dL_tries_300 264 (by decide) ?_
          exact ih264 l0 l1 l2 l3 l4 l5 l6 l7 l8 1 l10 l11 (l12 + 1)  S Ga _ _ h2 ho
set_option maxHeartbeats 2000000 in
set_option maxRecDepth 8000 in
theorem n13035_J226 {d : Nat} {P : ab_Pq} {X : ab_Xq} {o : Lx × Int32} {R : ab_K} (hR : ab_Cl (d + 916) (ab_Gam (d + 916)) (mCi i13035) i13035 0 (fun _ => 0) P X R) (h : ∀ G1, (o.2 = 0 ∨ o.2 = 1) → LRep G1 o.1 → P G1 (some (.int o.2))) {n175 : Nat} (ih175 : ∀ (l0 : Nat) (l1 : Int32) (l2 : Int32) (l3 : Int32) (l4 : Int32) (l5 : Int32) (l6 : Int32) (l7 : Nat) (l8 : Nat) (l9 : Int32) (l10 : Int32) (w11 : Option Value) (w12 : Option Value) (S : Lx) (Ga : ab_G) (bc bs : Nat) (h2 : LRep Ga S) (ho : l_13035_L175 n175 l0 l1 l2 l3 l4 l5 l6 l7 l8 l9 l10 bc bs S = some o), R 175 [some (.ref l0), some (.int l1), some (.int l2), some (.int l3), some (.int l4), some (.int l5), some (.int l6), some (.ref l7), some (.ref l8), some (.int l9), some (.int l10), w11, w12] [] Ga bc bs) : ∀ (l0 : Nat) (l1 : Int32) (l2 : Int32) (l3 : Int32) (l4 : Int32) (l5 : Int32) (l6 : Int32) (l7 : Nat) (l8 : Nat) (l9 : Int32) (l10 : Int32) (l11 : Int32) (k0 : Int32) (w12 : Option Value) (S : Lx) (Ga : ab_G) (bc bs : Nat) (h2 : LRep Ga S) (ho : l_13035_J226 (l_13035_L175 n175) l0 l1 l2 l3 l4 l5 l6 l7 l8 l9 l10 l11 k0 bc bs S = some o), R 226 [some (.ref l0), some (.int l1), some (.int l2), some (.int l3), some (.int l4), some (.int l5), some (.int l6), some (.ref l7), some (.ref l8), some (.int l9), some (.int l10), some (.int l11), w12] [.int k0] Ga bc bs := by
  have h13035_L264 := n13035_L264 hR h ih175
  intro l0 l1 l2 l3 l4 l5 l6 l7 l8 l9 l10 l11 k0 w12 S Ga bc bs h2 ho
  unfold l_13035_J226 at ho
  refine us_iload hR dL_tries_226 rfl ?_
  refine us_icmp_ne hR dL_tries_228 258 (by decide) (fun c22 => ?_) (fun c22 => ?_)
  · rw [if_neg c22] at ho
    refine us_iconstC hR dL_tries_258 (c := 0) (by decide) ?_
    refine us_istore hR dL_tries_259 (Nat.le_of_ble_eq_true rfl) ?_
    refine us_iconstC hR dL_tries_261 (c := 0) (by decide) ?_
    refine us_istore hR dL_tries_262 (Nat.le_of_ble_eq_true rfl) ?_
    exact h13035_L264 _ l0 l1 l2 l3 l4 l5 l6 l7 l8 0 l10 l11 0  S Ga _ _ h2 ho
  · rw [if_pos c22] at ho
    refine us_aload_n hR dL_tries_231 rfl ?_
    have hg := gd_c ho
    rw [gd_e hg] at ho
    refine us_callV0 hR dL_tries_232 (y := 11013) (by decide +kernel) (by decide) (J := i11013) rfl rfl rfl rfl (H_kind1 h2.1 hg (by decide)) rfl (Nat.le_of_ble_eq_true rfl) rfl rfl ?_
    obtain ⟨r23, hr23⟩ := bP_ex ho
    replace ho := bP_go ho hr23
    refine sh_11013 h2.1 hr23 ?_
    refine us_iload hR dL_tries_235 rfl ?_
    refine us_iload_n hR dL_tries_237 rfl ?_
    refine us_isub hR dL_tries_238 ?_
    refine us_iload hR dL_tries_239 rfl ?_
    refine us_iadd hR dL_tries_241 ?_
    refine us_icmp_ne hR dL_tries_242 258 (by decide) (fun c24 => ?_) (fun c24 => ?_)
    · rw [if_neg c24] at ho
      refine us_iconstC hR dL_tries_258 (c := 0) (by decide) ?_
      refine us_istore hR dL_tries_259 (Nat.le_of_ble_eq_true rfl) ?_
      refine us_iconstC hR dL_tries_261 (c := 0) (by decide) ?_
      refine us_istore hR dL_tries_262 (Nat.le_of_ble_eq_true rfl) ?_
      exact h13035_L264 _ l0 l1 l2 l3 l4 l5 l6 l7 l8 0 l10 l11 0  S Ga _ _ h2 ho
    · rw [if_pos c24] at ho
      refine us_aload_n hR dL_tries_245 rfl ?_
      have hg := gd_c ho
      rw [gd_e hg] at ho
      refine us_callV0 hR dL_tries_246 (y := 11011) (by decide +kernel) (by decide) (J := i11011) rfl rfl rfl rfl (H_kind1 h2.1 hg (by decide)) rfl (Nat.le_of_ble_eq_true rfl) rfl rfl ?_
      obtain ⟨r25, hr25⟩ := bP_ex ho
      replace ho := bP_go ho hr25
      refine sh_11011 h2.1 hr25 ?_
      refine us_iload hR dL_tries_249 rfl ?_
      refine us_icmp_ne hR dL_tries_251 258 (by decide) (fun c26 => ?_) (fun c26 => ?_)
      · rw [if_neg c26] at ho
        refine us_iconstC hR dL_tries_258 (c := 0) (by decide) ?_
        refine us_istore hR dL_tries_259 (Nat.le_of_ble_eq_true rfl) ?_
        refine us_iconstC hR dL_tries_261 (c := 0) (by decide) ?_
        refine us_istore hR dL_tries_262 (Nat.le_of_ble_eq_true rfl) ?_
        exact h13035_L264 _ l0 l1 l2 l3 l4 l5 l6 l7 l8 0 l10 l11 0  S Ga _ _ h2 ho
      · rw [if_pos c26] at ho
        refine us_iconstC hR dL_tries_254 (c := 1) (by decide) ?_
        refine us_goto hR dL_tries_255 259 (by decide) ?_
        refine us_istore hR dL_tries_259 (Nat.le_of_ble_eq_true rfl) ?_
        refine us_iconstC hR dL_tries_261 (c := 0) (by decide) ?_
        refine us_istore hR dL_tries_262 (Nat.le_of_ble_eq_true rfl) ?_
        exact h13035_L264 _ l0 l1 l2 l3 l4 l5 l6 l7 l8 1 l10 l11 0  S Ga _ _ h2 ho
set_option maxHeartbeats 2000000 in
set_option maxRecDepth 8000 in
theorem n13035_J199 {d : Nat} {P : ab_Pq} {X : ab_Xq} {o : Lx × Int32} {R : ab_K} (hR : ab_Cl (d + 916) (ab_Gam (d + 916)) (mCi i13035) i13035 0 (fun _ => 0) P X R) (h : ∀ G1, (o.2 = 0 ∨ o.2 = 1) → LRep G1 o.1 → P G1 (some (.int o.2))) {n175 : Nat} (ih175 : ∀ (l0 : Nat) (l1 : Int32) (l2 : Int32) (l3 : Int32) (l4 : Int32) (l5 : Int32) (l6 : Int32) (l7 : Nat) (l8 : Nat) (l9 : Int32) (l10 : Int32) (w11 : Option Value) (w12 : Option Value) (S : Lx) (Ga : ab_G) (bc bs : Nat) (h2 : LRep Ga S) (ho : l_13035_L175 n175 l0 l1 l2 l3 l4 l5 l6 l7 l8 l9 l10 bc bs S = some o), R 175 [some (.ref l0), some (.int l1), some (.int l2), some (.int l3), some (.int l4), some (.int l5), some (.int l6), some (.ref l7), some (.ref l8), some (.int l9), some (.int l10), w11, w12] [] Ga bc bs) : ∀ (l0 : Nat) (l1 : Int32) (l2 : Int32) (l3 : Int32) (l4 : Int32) (l5 : Int32) (l6 : Int32) (l7 : Nat) (l8 : Nat) (l9 : Int32) (l10 : Int32) (k0 : Int32) (w11 : Option Value) (w12 : Option Value) (S : Lx) (Ga : ab_G) (bc bs : Nat) (h2 : LRep Ga S) (ho : l_13035_J199 (l_13035_L175 n175) l0 l1 l2 l3 l4 l5 l6 l7 l8 l9 l10 k0 bc bs S = some o), R 199 [some (.ref l0), some (.int l1), some (.int l2), some (.int l3), some (.int l4), some (.int l5), some (.int l6), some (.ref l7), some (.ref l8), some (.int l9), some (.int l10), w11, w12] [.int k0] Ga bc bs := by
  have h13035_J226 := n13035_J226 hR h ih175
  intro l0 l1 l2 l3 l4 l5 l6 l7 l8 l9 l10 k0 w11 w12 S Ga bc bs h2 ho
  unfold l_13035_J199 at ho
  refine us_istore hR dL_tries_199 (Nat.le_of_ble_eq_true rfl) ?_
  refine us_iload hR dL_tries_201 rfl ?_
  refine us_iconstC hR dL_tries_203 (c := 1) (by decide) ?_
  refine us_icmp_ne hR dL_tries_204 218 (by decide) (fun c27 => ?_) (fun c27 => ?_)
  · rw [if_neg c27] at ho
    refine us_aload_n hR dL_tries_218 rfl ?_
    refine us_iload hR dL_tries_219 rfl ?_
    refine us_iload_n hR dL_tries_221 rfl ?_
    refine us_iload_n hR dL_tries_222 rfl ?_
    have hg := gd_c ho
    rw [gd_e hg] at ho
    have hme := hg
    have hb := gd_c ho
    rw [gd_e hb] at ho
    refine us_callSc 42 3712 hR dL_tries_223 (y := 13007) (by decide +kernel) (by decide) (J := i13007) rfl rfl rfl rfl (rest := _) (Nat.le_of_ble_eq_true rfl) rfl rfl hb.1 hb.2 ?_
    obtain ⟨q28, hs28⟩ := bO_ex ho
    obtain ⟨T28, r28⟩ := q28
    replace ho := bO_go ho hs28
    refine sh_13007 h2.1 hme hs28 (fun G28 h328 hF28 => ?_)
    have h228 := h2.cls h328 hF28
    obtain ⟨S28, hS28⟩ : ∃ Sz, Sz = lT S T28 := ⟨_, rfl⟩
    rw [bS_eq, ← hS28] at ho
    rw [← hS28] at h228
    exact h13035_J226 l0 l1 l2 l3 l4 l5 l6 l7 l8 l9 l10 k0 r28 _ S28 G28 _ _ h228 ho
  · rw [if_pos c27] at ho
    refine us_aload_n hR dL_tries_207 rfl ?_
    refine us_iload hR dL_tries_208 rfl ?_
    refine us_iload_n hR dL_tries_210 rfl ?_
    refine us_iload_n hR dL_tries_211 rfl ?_
    have hg := gd_c ho
    rw [gd_e hg] at ho
    have hme := hg
    have hb := gd_c ho
    rw [gd_e hb] at ho
    refine us_callSc 42 3712 hR dL_tries_212 (y := 13006) (by decide +kernel) (by decide) (J := i13006) rfl rfl rfl rfl (rest := _) (Nat.le_of_ble_eq_true rfl) rfl rfl hb.1 hb.2 ?_
    obtain ⟨q29, hs29⟩ := bO_ex ho
    obtain ⟨T29, r29⟩ := q29
    replace ho := bO_go ho hs29
    refine sh_13006 h2.1 hme hs29 (fun G29 h329 hF29 => ?_)
    have h229 := h2.cls h329 hF29
    obtain ⟨S29, hS29⟩ : ∃ Sz, Sz = lT S T29 := ⟨_, rfl⟩
    rw [bS_eq, ← hS29] at ho
    rw [← hS29] at h229
    refine us_goto hR dL_tries_215 226 (by decide) ?_
    exact h13035_J226 l0 l1 l2 l3 l4 l5 l6 l7 l8 l9 l10 k0 r29 _ S29 G29 _ _ h229 ho
set_option maxHeartbeats 2000000 in
set_option maxRecDepth 8000 in
theorem n13035_L175 {d : Nat} {P : ab_Pq} {X : ab_Xq} {o : Lx × Int32} {R : ab_K} (hR : ab_Cl (d + 916) (ab_Gam (d + 916)) (mCi i13035) i13035 0 (fun _ => 0) P X R) (h : ∀ G1, (o.2 = 0 ∨ o.2 = 1) → LRep G1 o.1 → P G1 (some (.int o.2))) : ∀ (n : Nat) (l0 : Nat) (l1 : Int32) (l2 : Int32) (l3 : Int32) (l4 : Int32) (l5 : Int32) (l6 : Int32) (l7 : Nat) (l8 : Nat) (l9 : Int32) (l10 : Int32) (w11 : Option Value) (w12 : Option Value) (S : Lx) (Ga : ab_G) (bc bs : Nat) (h2 : LRep Ga S) (ho : l_13035_L175 n l0 l1 l2 l3 l4 l5 l6 l7 l8 l9 l10 bc bs S = some o), R 175 [some (.ref l0), some (.int l1), some (.int l2), some (.int l3), some (.int l4), some (.int l5), some (.int l6), some (.ref l7), some (.ref l8), some (.int l9), some (.int l10), w11, w12] [] Ga bc bs := by
  have h13035_J351 := n13035_J351 hR h 
  intro n
  induction n with
  | zero => intro l0 l1 l2 l3 l4 l5 l6 l7 l8 l9 l10 w11 w12 S Ga bc bs h2 ho; exact absurd ho (by rw [l_13035_L175]; intro hc; cases hc)
  | succ n175 ih175 =>
    have h13035_J199 := n13035_J199 hR h ih175
    intro l0 l1 l2 l3 l4 l5 l6 l7 l8 l9 l10 w11 w12 S Ga bc bs h2 ho
    rw [l_13035_L175] at ho
    refine us_iload hR dL_tries_175 rfl ?_
    refine us_iconstC hR dL_tries_177 (c := 3) (by decide) ?_
    refine us_icmp_ge hR dL_tries_178 351 (by decide) (fun c30 => ?_) (fun c30 => ?_)
    · rw [if_pos c30] at ho
      exact h13035_J351 l0 l1 l2 l3 l4 l5 l6 l7 l8 l9 l10 _ _ S Ga _ _ h2 ho
    · rw [if_neg c30] at ho
      refine us_iload hR dL_tries_181 rfl ?_
      refine us_if_eq hR dL_tries_183 351 (by decide) (fun c31 => ?_) (fun c31 => ?_)
      · rw [if_pos c31] at ho
        exact h13035_J351 l0 l1 l2 l3 l4 l5 l6 l7 l8 l9 l10 _ _ S Ga _ _ h2 ho
      · rw [if_neg c31] at ho
        refine us_iload hR dL_tries_186 rfl ?_
        refine us_if_ne hR dL_tries_188 195 (by decide) (fun c32 => ?_) (fun c32 => ?_)
        · rw [if_neg c32] at ho
          refine us_iload_n hR dL_tries_195 rfl ?_
          refine us_iload hR dL_tries_196 rfl ?_
          refine us_isub hR dL_tries_198 ?_
          exact h13035_J199 l0 l1 l2 l3 l4 l5 l6 l7 l8 l9 l10 (l1 - l5) _ _ S Ga _ _ h2 ho
        · rw [if_pos c32] at ho
          refine us_iload_n hR dL_tries_191 rfl ?_
          refine us_goto hR dL_tries_192 199 (by decide) ?_
          exact h13035_J199 l0 l1 l2 l3 l4 l5 l6 l7 l8 l9 l10 l1 _ _ S Ga _ _ h2 ho
set_option maxHeartbeats 2000000 in
set_option maxRecDepth 8000 in
theorem n13035_L148 {d : Nat} {P : ab_Pq} {X : ab_Xq} {o : Lx × Int32} {R : ab_K} (hR : ab_Cl (d + 916) (ab_Gam (d + 916)) (mCi i13035) i13035 0 (fun _ => 0) P X R) (h : ∀ G1, (o.2 = 0 ∨ o.2 = 1) → LRep G1 o.1 → P G1 (some (.int o.2))) : ∀ (n : Nat) (l0 : Nat) (l1 : Int32) (l2 : Int32) (l3 : Int32) (l4 : Int32) (l5 : Int32) (l6 : Int32) (l7 : Nat) (l8 : Nat) (l9 : Int32) (l10 : Int32)  (S : Lx) (Ga : ab_G) (bc bs : Nat) (h2 : LRep Ga S) (ho : l_13035_L148 n l0 l1 l2 l3 l4 l5 l6 l7 l8 l9 l10 bc bs S = some o), R 148 [some (.ref l0), some (.int l1), some (.int l2), some (.int l3), some (.int l4), some (.int l5), some (.int l6), some (.ref l7), some (.ref l8), some (.int l9), some (.int l10), none, none] [] Ga bc bs := by
  have h13035_L175 := n13035_L175 hR h 
  intro n
  induction n with
  | zero => intro l0 l1 l2 l3 l4 l5 l6 l7 l8 l9 l10  S Ga bc bs h2 ho; exact absurd ho (by rw [l_13035_L148]; intro hc; cases hc)
  | succ n148 ih148 =>
    intro l0 l1 l2 l3 l4 l5 l6 l7 l8 l9 l10  S Ga bc bs h2 ho
    rw [l_13035_L148] at ho
    refine us_iload hR dL_tries_148 rfl ?_
    refine us_bipushC hR dL_tries_150 (c := 32) (by decide) ?_
    refine us_icmp_ge hR dL_tries_152 172 (by decide) (fun c33 => ?_) (fun c33 => ?_)
    · rw [if_pos c33] at ho
      refine us_iconstC hR dL_tries_172 (c := 0) (by decide) ?_
      refine us_istore hR dL_tries_173 (Nat.le_of_ble_eq_true rfl) ?_
      exact h13035_L175 _ l0 l1 l2 l3 l4 l5 l6 l7 l8 l9 0 _ _ S Ga _ _ h2 ho
    · rw [if_neg c33] at ho
      refine us_aload hR dL_tries_155 rfl ?_
      refine us_iload hR dL_tries_157 rfl ?_
      refine us_aload_n hR dL_tries_159 rfl ?_
      refine us_iload hR dL_tries_160 rfl ?_
      have hg := gd_c ho
      rw [gd_e hg] at ho
      have hme := hg
      have hb := gd_c ho
      rw [gd_e hb] at ho
      refine us_callSc 1 6 hR dL_tries_162 (y := 13009) (by decide +kernel) (by decide) (J := i13009) rfl rfl rfl rfl (rest := _) (Nat.le_of_ble_eq_true rfl) rfl rfl hb.1 hb.2 ?_
      obtain ⟨r34, hr34⟩ := bP_ex ho
      replace ho := bP_go ho hr34
      refine sh_13009 h2.1 hme hr34 ?_
      have hg := gd_c ho
      rw [gd_e hg] at ho
      refine ul_iastore h2 hg hR dL_tries_165 (fun G35 S35 hs35 h235 => ?_)
      rw [← hs35, bS_eq] at ho
      refine us_iincC hR dL_tries_166 rfl (Nat.le_of_ble_eq_true rfl) (c := 1) (by decide) ?_
      refine us_goto hR dL_tries_169 148 (by decide) ?_
      exact ih148 l0 l1 l2 l3 l4 l5 l6 l7 l8 l9 (l10 + 1)  S35 G35 _ _ h235 ho
set_option maxHeartbeats 2000000 in
set_option maxRecDepth 8000 in
theorem n13035_L121 {d : Nat} {P : ab_Pq} {X : ab_Xq} {o : Lx × Int32} {R : ab_K} (hR : ab_Cl (d + 916) (ab_Gam (d + 916)) (mCi i13035) i13035 0 (fun _ => 0) P X R) (h : ∀ G1, (o.2 = 0 ∨ o.2 = 1) → LRep G1 o.1 → P G1 (some (.int o.2))) : ∀ (n : Nat) (l0 : Nat) (l1 : Int32) (l2 : Int32) (l3 : Int32) (l4 : Int32) (l5 : Int32) (l6 : Int32) (l7 : Nat) (l8 : Nat) (l9 : Int32) (l10 : Int32)  (S : Lx) (Ga : ab_G) (bc bs : Nat) (h2 : LRep Ga S) (ho : l_13035_L121 n l0 l1 l2 l3 l4 l5 l6 l7 l8 l9 l10 bc bs S = some o), R 121 [some (.ref l0), some (.int l1), some (.int l2), some (.int l3), some (.int l4), some (.int l5), some (.int l6), some (.ref l7), some (.ref l8), some (.int l9), some (.int l10), none, none] [] Ga bc bs := by
  have h13035_L148 := n13035_L148 hR h 
  intro n
  induction n with
  | zero => intro l0 l1 l2 l3 l4 l5 l6 l7 l8 l9 l10  S Ga bc bs h2 ho; exact absurd ho (by rw [l_13035_L121]; intro hc; cases hc)
  | succ n121 ih121 =>
    intro l0 l1 l2 l3 l4 l5 l6 l7 l8 l9 l10  S Ga bc bs h2 ho
    rw [l_13035_L121] at ho
    refine us_iload hR dL_tries_121 rfl ?_
    refine us_iload hR dL_tries_123 rfl ?_
    refine us_icmp_ge hR dL_tries_125 145 (by decide) (fun c36 => ?_) (fun c36 => ?_)
    · rw [if_pos c36] at ho
      refine us_iconstC hR dL_tries_145 (c := 0) (by decide) ?_
      refine us_istore hR dL_tries_146 (Nat.le_of_ble_eq_true rfl) ?_
      exact h13035_L148 _ l0 l1 l2 l3 l4 l5 l6 l7 l8 l9 0  S Ga _ _ h2 ho
    · rw [if_neg c36] at ho
      refine us_aload hR dL_tries_128 rfl ?_
      refine us_iload hR dL_tries_130 rfl ?_
      refine us_aload_n hR dL_tries_132 rfl ?_
      refine us_iload hR dL_tries_133 rfl ?_
      have hg := gd_c ho
      rw [gd_e hg] at ho
      have hme := hg
      have hb := gd_c ho
      rw [gd_e hb] at ho
      refine us_callSc 1 6 hR dL_tries_135 (y := 13008) (by decide +kernel) (by decide) (J := i13008) rfl rfl rfl rfl (rest := _) (Nat.le_of_ble_eq_true rfl) rfl rfl hb.1 hb.2 ?_
      obtain ⟨r37, hr37⟩ := bP_ex ho
      replace ho := bP_go ho hr37
      refine sh_13008 h2.1 hme hr37 ?_
      have hg := gd_c ho
      rw [gd_e hg] at ho
      refine ul_iastore h2 hg hR dL_tries_138 (fun G38 S38 hs38 h238 => ?_)
      rw [← hs38, bS_eq] at ho
      refine us_iincC hR dL_tries_139 rfl (Nat.le_of_ble_eq_true rfl) (c := 1) (by decide) ?_
      refine us_goto hR dL_tries_142 121 (by decide) ?_
      exact ih121 l0 l1 l2 l3 l4 l5 l6 l7 l8 l9 (l10 + 1)  S38 G38 _ _ h238 ho
set_option maxHeartbeats 2000000 in
set_option maxRecDepth 8000 in
theorem n13035_J79 {d : Nat} {P : ab_Pq} {X : ab_Xq} {o : Lx × Int32} {R : ab_K} (hR : ab_Cl (d + 916) (ab_Gam (d + 916)) (mCi i13035) i13035 0 (fun _ => 0) P X R) (h : ∀ G1, (o.2 = 0 ∨ o.2 = 1) → LRep G1 o.1 → P G1 (some (.int o.2))) : ∀ (l0 : Nat) (l1 : Int32) (l2 : Int32) (l3 : Int32) (l4 : Int32) (l5 : Int32) (l6 : Int32) (l7 : Nat) (l8 : Nat)  (S : Lx) (Ga : ab_G) (bc bs : Nat) (h2 : LRep Ga S) (ho : l_13035_J79 l0 l1 l2 l3 l4 l5 l6 l7 l8 bc bs S = some o), R 79 [some (.ref l0), some (.int l1), some (.int l2), some (.int l3), some (.int l4), some (.int l5), some (.int l6), some (.ref l7), some (.ref l8), none, none, none, none] [] Ga bc bs := by
  have h13035_L121 := n13035_L121 hR h 
  intro l0 l1 l2 l3 l4 l5 l6 l7 l8  S Ga bc bs h2 ho
  unfold l_13035_J79 at ho
  refine us_aload_n hR dL_tries_79 rfl ?_
  refine us_iload hR dL_tries_80 rfl ?_
  have hg := gd_c ho
  rw [gd_e hg] at ho
  have hme := hg
  have hb := gd_c ho
  rw [gd_e hb] at ho
  refine us_callSc 1 6 hR dL_tries_82 (y := 13008) (by decide +kernel) (by decide) (J := i13008) rfl rfl rfl rfl (rest := _) (Nat.le_of_ble_eq_true rfl) rfl rfl hb.1 hb.2 ?_
  obtain ⟨r39, hr39⟩ := bP_ex ho
  replace ho := bP_go ho hr39
  refine sh_13008 h2.1 hme hr39 ?_
  refine us_ldc hR dL_tries_85 (v := (-1000001)) (by decide +kernel) ?_
  refine us_icmp_ne hR dL_tries_87 115 (by decide) (fun c40 => ?_) (fun c40 => ?_)
  · rw [if_neg c40] at ho
    refine us_iconstC hR dL_tries_115 (c := 0) (by decide) ?_
    refine us_istore hR dL_tries_116 (Nat.le_of_ble_eq_true rfl) ?_
    refine us_iconstC hR dL_tries_118 (c := 0) (by decide) ?_
    refine us_istore hR dL_tries_119 (Nat.le_of_ble_eq_true rfl) ?_
    exact h13035_L121 _ l0 l1 l2 l3 l4 l5 l6 l7 l8 0 0  S Ga _ _ h2 ho
  · rw [if_pos c40] at ho
    refine us_aload_n hR dL_tries_90 rfl ?_
    refine us_iconstC hR dL_tries_91 (c := (-1)) (by decide) ?_
    have hg := gd_c ho
    rw [gd_e hg] at ho
    have hme := hg
    have hb := gd_c ho
    rw [gd_e hb] at ho
    refine us_callSc 1 6 hR dL_tries_92 (y := 13008) (by decide +kernel) (by decide) (J := i13008) rfl rfl rfl rfl (rest := _) (Nat.le_of_ble_eq_true rfl) rfl rfl hb.1 hb.2 ?_
    obtain ⟨r41, hr41⟩ := bP_ex ho
    replace ho := bP_go ho hr41
    refine sh_13008 h2.1 hme hr41 ?_
    refine us_ldc hR dL_tries_95 (v := (-1000001)) (by decide +kernel) ?_
    refine us_icmp_ne hR dL_tries_97 115 (by decide) (fun c42 => ?_) (fun c42 => ?_)
    · rw [if_neg c42] at ho
      refine us_iconstC hR dL_tries_115 (c := 0) (by decide) ?_
      refine us_istore hR dL_tries_116 (Nat.le_of_ble_eq_true rfl) ?_
      refine us_iconstC hR dL_tries_118 (c := 0) (by decide) ?_
      refine us_istore hR dL_tries_119 (Nat.le_of_ble_eq_true rfl) ?_
      exact h13035_L121 _ l0 l1 l2 l3 l4 l5 l6 l7 l8 0 0  S Ga _ _ h2 ho
    · rw [if_pos c42] at ho
      refine us_aload_n hR dL_tries_100 rfl ?_
      refine us_bipushC hR dL_tries_101 (c := 32) (by decide) ?_
      have hg := gd_c ho
      rw [gd_e hg] at ho
      have hme := hg
      have hb := gd_c ho
      rw [gd_e hb] at ho
      refine us_callSc 1 6 hR dL_tries_103 (y := 13009) (by decide +kernel) (by decide) (J := i13009) rfl rfl rfl rfl (rest := _) (Nat.le_of_ble_eq_true rfl) rfl rfl hb.1 hb.2 ?_
      obtain ⟨r43, hr43⟩ := bP_ex ho
      replace ho := bP_go ho hr43
      refine sh_13009 h2.1 hme hr43 ?_
      refine us_ldc hR dL_tries_106 (v := (-1000001)) (by decide +kernel) ?_
      refine us_icmp_ne hR dL_tries_108 115 (by decide) (fun c44 => ?_) (fun c44 => ?_)
      · rw [if_neg c44] at ho
        refine us_iconstC hR dL_tries_115 (c := 0) (by decide) ?_
        refine us_istore hR dL_tries_116 (Nat.le_of_ble_eq_true rfl) ?_
        refine us_iconstC hR dL_tries_118 (c := 0) (by decide) ?_
        refine us_istore hR dL_tries_119 (Nat.le_of_ble_eq_true rfl) ?_
        exact h13035_L121 _ l0 l1 l2 l3 l4 l5 l6 l7 l8 0 0  S Ga _ _ h2 ho
      · rw [if_pos c44] at ho
        refine us_iconstC hR dL_tries_111 (c := 1) (by decide) ?_
        refine us_goto hR dL_tries_112 116 (by decide) ?_
        refine us_istore hR dL_tries_116 (Nat.le_of_ble_eq_true rfl) ?_
        refine us_iconstC hR dL_tries_118 (c := 0) (by decide) ?_
        refine us_istore hR dL_tries_119 (Nat.le_of_ble_eq_true rfl) ?_
        exact h13035_L121 _ l0 l1 l2 l3 l4 l5 l6 l7 l8 1 0  S Ga _ _ h2 ho
set_option maxHeartbeats 2000000 in
set_option maxRecDepth 8000 in
theorem sl_13035 {d : Nat} {G : ab_G} {S : Lx} {P : ab_Pq} {X : ab_Xq} (h2 : LRep G S) {x0 : Nat} {x1 : Int32} {x2 : Int32} {x3 : Int32} {o : Lx × Int32} (ho : l_13035 x0 x1 x2 x3 S = some o) (h : ∀ G1, (o.2 = 0 ∨ o.2 = 1) → LRep G1 o.1 → P G1 (some (.int o.2))) : ab_Gam (d + 917) 13035 [.ref x0, .int x1, .int x2, .int x3] G P X := by
  unfold l_13035 at ho
  refine ab_enter (I := i13035) rfl (Nat.le_of_ble_eq_true rfl) (fun R hR => ?_)
  have h13035_L121 := n13035_L121 hR h 
  have h13035_J79 := n13035_J79 hR h 
  change R _ [some (.ref x0), some (.int x1), some (.int x2), some (.int x3), none, none, none, none, none, none, none, none, none] _ _ 460 20000
  refine us_aload_n hR dL_tries_0 rfl ?_
  refine us_iload_n hR dL_tries_1 rfl ?_
  refine us_iload_n hR dL_tries_2 rfl ?_
  refine us_iload_n hR dL_tries_3 rfl ?_
  have hg := gd_c ho
  rw [gd_e hg] at ho
  have hme := hg
  refine us_callSc 42 3712 hR dL_tries_4 (y := 13006) (by decide +kernel) (by decide) (J := i13006) rfl rfl rfl rfl (rest := _) (Nat.le_of_ble_eq_true rfl) rfl rfl (Nat.le_of_ble_eq_true rfl) (Nat.le_of_ble_eq_true rfl) ?_
  obtain ⟨q45, hs45⟩ := bO_ex ho
  obtain ⟨T45, r45⟩ := q45
  replace ho := bO_go ho hs45
  refine sh_13006 h2.1 hme hs45 (fun G45 h345 hF45 => ?_)
  have h245 := h2.cls h345 hF45
  obtain ⟨S45, hS45⟩ : ∃ Sz, Sz = lT S T45 := ⟨_, rfl⟩
  rw [bS_eq, ← hS45] at ho
  rw [← hS45] at h245
  change R _ [some (.ref x0), some (.int x1), some (.int x2), some (.int x3), none, none, none, none, none, none, none, none, none] _ _ 418 16288
  refine us_istore hR dL_tries_7 (Nat.le_of_ble_eq_true rfl) ?_
  refine us_aload_n hR dL_tries_9 rfl ?_
  have hg := gd_c ho
  rw [gd_e hg] at ho
  refine us_callV0 hR dL_tries_10 (y := 11013) (by decide +kernel) (by decide) (J := i11013) rfl rfl rfl rfl (H_kind1 h245.1 hg (by decide)) rfl (Nat.le_of_ble_eq_true rfl) rfl rfl ?_
  obtain ⟨r46, hr46⟩ := bP_ex ho
  replace ho := bP_go ho hr46
  refine sh_11013 h245.1 hr46 ?_
  refine us_istore hR dL_tries_13 (Nat.le_of_ble_eq_true rfl) ?_
  change R _ [some (.ref x0), some (.int x1), some (.int x2), some (.int x3), some (.int r45), some (.int r46), none, none, none, none, none, none, none] _ _ 418 16288
  refine us_aload_n hR dL_tries_15 rfl ?_
  have hg := gd_c ho
  rw [gd_e hg] at ho
  refine us_callV0 hR dL_tries_16 (y := 11011) (by decide +kernel) (by decide) (J := i11011) rfl rfl rfl rfl (H_kind1 h245.1 hg (by decide)) rfl (Nat.le_of_ble_eq_true rfl) rfl rfl ?_
  obtain ⟨r47, hr47⟩ := bP_ex ho
  replace ho := bP_go ho hr47
  refine sh_11011 h245.1 hr47 ?_
  refine us_istore hR dL_tries_19 (Nat.le_of_ble_eq_true rfl) ?_
  refine us_bipushC hR dL_tries_21 (c := 8) (by decide) ?_
  refine ul_newa h245 (n := 8) (by decide) (by decide) (by decide) (by decide) hR dL_tries_23 (Nat.le_of_ble_eq_true rfl) (Nat.le_of_ble_eq_true rfl) (fun G48 S48 hs48 h248 => ?_)
  rw [← hs48, bS_eq] at ho
  change R _ [some (.ref x0), some (.int x1), some (.int x2), some (.int x3), some (.int r45), some (.int r46), some (.int r47), none, none, none, none, none, none] _ _ 417 16280
  refine us_astore hR dL_tries_25 (Nat.le_of_ble_eq_true rfl) ?_
  refine us_bipushC hR dL_tries_27 (c := 32) (by decide) ?_
  refine ul_newa h248 (n := 32) (by decide) (by decide) (by decide) (by decide) hR dL_tries_29 (Nat.le_of_ble_eq_true rfl) (Nat.le_of_ble_eq_true rfl) (fun G49 S49 hs49 h249 => ?_)
  rw [← hs49, bS_eq] at ho
  change R _ [some (.ref x0), some (.int x1), some (.int x2), some (.int x3), some (.int r45), some (.int r46), some (.int r47), some (.ref (tZ S45.1)), none, none, none, none, none] _ _ 416 16248
  refine us_astore hR dL_tries_31 (Nat.le_of_ble_eq_true rfl) ?_
  refine us_iload hR dL_tries_33 rfl ?_
  refine us_if_lt hR dL_tries_35 115 (by decide) (fun c50 => ?_) (fun c50 => ?_)
  · rw [if_pos c50] at ho
    change R _ [some (.ref x0), some (.int x1), some (.int x2), some (.int x3), some (.int r45), some (.int r46), some (.int r47), some (.ref (tZ S45.1)), some (.ref (tZ S48.1)), none, none, none, none] _ _ 416 16248
    refine us_iconstC hR dL_tries_115 (c := 0) (by decide) ?_
    refine us_istore hR dL_tries_116 (Nat.le_of_ble_eq_true rfl) ?_
    refine us_iconstC hR dL_tries_118 (c := 0) (by decide) ?_
    refine us_istore hR dL_tries_119 (Nat.le_of_ble_eq_true rfl) ?_
    exact h13035_L121 _ x0 x1 x2 x3 r45 r46 r47 (tZ S45.1) (tZ S48.1) 0 0  S49 G49 _ _ h249 ho
  · rw [if_neg c50] at ho
    change R _ [some (.ref x0), some (.int x1), some (.int x2), some (.int x3), some (.int r45), some (.int r46), some (.int r47), some (.ref (tZ S45.1)), some (.ref (tZ S48.1)), none, none, none, none] _ _ 416 16248
    refine us_iload hR dL_tries_38 rfl ?_
    refine us_bipushC hR dL_tries_40 (c := 8) (by decide) ?_
    refine us_icmp_ge hR dL_tries_42 115 (by decide) (fun c51 => ?_) (fun c51 => ?_)
    · rw [if_pos c51] at ho
      change R _ [some (.ref x0), some (.int x1), some (.int x2), some (.int x3), some (.int r45), some (.int r46), some (.int r47), some (.ref (tZ S45.1)), some (.ref (tZ S48.1)), none, none, none, none] _ _ 416 16248
      refine us_iconstC hR dL_tries_115 (c := 0) (by decide) ?_
      refine us_istore hR dL_tries_116 (Nat.le_of_ble_eq_true rfl) ?_
      refine us_iconstC hR dL_tries_118 (c := 0) (by decide) ?_
      refine us_istore hR dL_tries_119 (Nat.le_of_ble_eq_true rfl) ?_
      exact h13035_L121 _ x0 x1 x2 x3 r45 r46 r47 (tZ S45.1) (tZ S48.1) 0 0  S49 G49 _ _ h249 ho
    · rw [if_neg c51] at ho
      change R _ [some (.ref x0), some (.int x1), some (.int x2), some (.int x3), some (.int r45), some (.int r46), some (.int r47), some (.ref (tZ S45.1)), some (.ref (tZ S48.1)), none, none, none, none] _ _ 416 16248
      refine us_iload hR dL_tries_45 rfl ?_
      refine us_if_lt hR dL_tries_47 115 (by decide) (fun c52 => ?_) (fun c52 => ?_)
      · rw [if_pos c52] at ho
        change R _ [some (.ref x0), some (.int x1), some (.int x2), some (.int x3), some (.int r45), some (.int r46), some (.int r47), some (.ref (tZ S45.1)), some (.ref (tZ S48.1)), none, none, none, none] _ _ 416 16248
        refine us_iconstC hR dL_tries_115 (c := 0) (by decide) ?_
        refine us_istore hR dL_tries_116 (Nat.le_of_ble_eq_true rfl) ?_
        refine us_iconstC hR dL_tries_118 (c := 0) (by decide) ?_
        refine us_istore hR dL_tries_119 (Nat.le_of_ble_eq_true rfl) ?_
        exact h13035_L121 _ x0 x1 x2 x3 r45 r46 r47 (tZ S45.1) (tZ S48.1) 0 0  S49 G49 _ _ h249 ho
      · rw [if_neg c52] at ho
        change R _ [some (.ref x0), some (.int x1), some (.int x2), some (.int x3), some (.int r45), some (.int r46), some (.int r47), some (.ref (tZ S45.1)), some (.ref (tZ S48.1)), none, none, none, none] _ _ 416 16248
        refine us_iload hR dL_tries_50 rfl ?_
        refine us_iload_n hR dL_tries_52 rfl ?_
        refine us_icmp_gt hR dL_tries_53 115 (by decide) (fun c53 => ?_) (fun c53 => ?_)
        · rw [if_pos c53] at ho
          change R _ [some (.ref x0), some (.int x1), some (.int x2), some (.int x3), some (.int r45), some (.int r46), some (.int r47), some (.ref (tZ S45.1)), some (.ref (tZ S48.1)), none, none, none, none] _ _ 416 16248
          refine us_iconstC hR dL_tries_115 (c := 0) (by decide) ?_
          refine us_istore hR dL_tries_116 (Nat.le_of_ble_eq_true rfl) ?_
          refine us_iconstC hR dL_tries_118 (c := 0) (by decide) ?_
          refine us_istore hR dL_tries_119 (Nat.le_of_ble_eq_true rfl) ?_
          exact h13035_L121 _ x0 x1 x2 x3 r45 r46 r47 (tZ S45.1) (tZ S48.1) 0 0  S49 G49 _ _ h249 ho
        · rw [if_neg c53] at ho
          change R _ [some (.ref x0), some (.int x1), some (.int x2), some (.int x3), some (.int r45), some (.int r46), some (.int r47), some (.ref (tZ S45.1)), some (.ref (tZ S48.1)), none, none, none, none] _ _ 416 16248
          refine us_iload hR dL_tries_56 rfl ?_
          refine us_if_lt hR dL_tries_58 115 (by decide) (fun c54 => ?_) (fun c54 => ?_)
          · rw [if_pos c54] at ho
            change R _ [some (.ref x0), some (.int x1), some (.int x2), some (.int x3), some (.int r45), some (.int r46), some (.int r47), some (.ref (tZ S45.1)), some (.ref (tZ S48.1)), none, none, none, none] _ _ 416 16248
            refine us_iconstC hR dL_tries_115 (c := 0) (by decide) ?_
            refine us_istore hR dL_tries_116 (Nat.le_of_ble_eq_true rfl) ?_
            refine us_iconstC hR dL_tries_118 (c := 0) (by decide) ?_
            refine us_istore hR dL_tries_119 (Nat.le_of_ble_eq_true rfl) ?_
            exact h13035_L121 _ x0 x1 x2 x3 r45 r46 r47 (tZ S45.1) (tZ S48.1) 0 0  S49 G49 _ _ h249 ho
          · rw [if_neg c54] at ho
            change R _ [some (.ref x0), some (.int x1), some (.int x2), some (.int x3), some (.int r45), some (.int r46), some (.int r47), some (.ref (tZ S45.1)), some (.ref (tZ S48.1)), none, none, none, none] _ _ 416 16248
            refine us_iload hR dL_tries_61 rfl ?_
            refine us_bipushC hR dL_tries_63 (c := 9) (by decide) ?_
            refine us_icmp_ge hR dL_tries_65 115 (by decide) (fun c55 => ?_) (fun c55 => ?_)
            · rw [if_pos c55] at ho
              change R _ [some (.ref x0), some (.int x1), some (.int x2), some (.int x3), some (.int r45), some (.int r46), some (.int r47), some (.ref (tZ S45.1)), some (.ref (tZ S48.1)), none, none, none, none] _ _ 416 16248
              refine us_iconstC hR dL_tries_115 (c := 0) (by decide) ?_
              refine us_istore hR dL_tries_116 (Nat.le_of_ble_eq_true rfl) ?_
              refine us_iconstC hR dL_tries_118 (c := 0) (by decide) ?_
              refine us_istore hR dL_tries_119 (Nat.le_of_ble_eq_true rfl) ?_
              exact h13035_L121 _ x0 x1 x2 x3 r45 r46 r47 (tZ S45.1) (tZ S48.1) 0 0  S49 G49 _ _ h249 ho
            · rw [if_neg c55] at ho
              change R _ [some (.ref x0), some (.int x1), some (.int x2), some (.int x3), some (.int r45), some (.int r46), some (.int r47), some (.ref (tZ S45.1)), some (.ref (tZ S48.1)), none, none, none, none] _ _ 416 16248
              refine us_iload hR dL_tries_68 rfl ?_
              refine us_iconstC hR dL_tries_70 (c := 1) (by decide) ?_
              refine us_icmp_ne hR dL_tries_71 79 (by decide) (fun c56 => ?_) (fun c56 => ?_)
              · rw [if_neg c56] at ho
                exact h13035_J79 x0 x1 x2 x3 r45 r46 r47 (tZ S45.1) (tZ S48.1)  S49 G49 _ _ h249 ho
              · rw [if_pos c56] at ho
                change R _ [some (.ref x0), some (.int x1), some (.int x2), some (.int x3), some (.int r45), some (.int r46), some (.int r47), some (.ref (tZ S45.1)), some (.ref (tZ S48.1)), none, none, none, none] _ _ 416 16248
                refine us_iload hR dL_tries_74 rfl ?_
                refine us_if_ne hR dL_tries_76 115 (by decide) (fun c57 => ?_) (fun c57 => ?_)
                · rw [if_neg c57] at ho
                  change R _ [some (.ref x0), some (.int x1), some (.int x2), some (.int x3), some (.int r45), some (.int r46), some (.int r47), some (.ref (tZ S45.1)), some (.ref (tZ S48.1)), none, none, none, none] _ _ 416 16248
                  refine us_iconstC hR dL_tries_115 (c := 0) (by decide) ?_
                  refine us_istore hR dL_tries_116 (Nat.le_of_ble_eq_true rfl) ?_
                  refine us_iconstC hR dL_tries_118 (c := 0) (by decide) ?_
                  refine us_istore hR dL_tries_119 (Nat.le_of_ble_eq_true rfl) ?_
                  exact h13035_L121 _ x0 x1 x2 x3 r45 r46 r47 (tZ S45.1) (tZ S48.1) 0 0  S49 G49 _ _ h249 ho
                · rw [if_pos c57] at ho
                  exact h13035_J79 x0 x1 x2 x3 r45 r46 r47 (tZ S45.1) (tZ S48.1)  S49 G49 _ _ h249 ho
end
