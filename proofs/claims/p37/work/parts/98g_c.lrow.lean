/-! the law: how it spoils a draft -/
noncomputable section
set_option maxHeartbeats 2000000 in
set_option maxRecDepth 8000 in
theorem n13036_J311 {d : Nat} {P : ab_Pq} {X : ab_Xq} {o : Lx × Int32} {R : ab_K} (hR : ab_Cl (d + 916) (ab_Gam (d + 916)) (mCi i13036) i13036 0 (fun _ => 0) P X R) (h : ∀ G1, (o.2 = 0 ∨ o.2 = 1) → LRep G1 o.1 → P G1 (some (.int o.2))) : ∀ (l0 : Nat) (l1 : Nat) (l2 : Int32) (l3 : Int32) (l4 : Int32) (l5 : Int32) (l6 : Int32) (l7 : Int32) (l8 : Int32) (l9 : Int32) (l10 : Int32) (k0 : Int32)  (S : Lx) (Ga : ab_G) (bc bs : Nat) (h2 : LRep Ga S) (ho : l_13036_J311 l0 l1 l2 l3 l4 l5 l6 l7 l8 l9 l10 k0 bc bs S = some o), R 311 [some (.ref l0), some (.ref l1), some (.int l2), some (.int l3), some (.int l4), some (.int l5), some (.int l6), some (.int l7), some (.int l8), some (.int l9), some (.int l10)] [.int k0] Ga bc bs := by
  intro l0 l1 l2 l3 l4 l5 l6 l7 l8 l9 l10 k0  S Ga bc bs h2 ho
  unfold l_13036_J311 at ho
  refine us_istore hR dL_spoils_311 (Nat.le_of_ble_eq_true rfl) ?_
  refine us_iload hR dL_spoils_313 rfl ?_
  refine us_if_eq hR dL_spoils_315 379 (by decide) (fun c1 => ?_) (fun c1 => ?_)
  · rw [if_pos c1] at ho
    refine us_iconstC hR dL_spoils_379 (c := 0) (by decide) ?_
    refine us_iret hR dL_spoils_380 rfl (nar01 (Or.inl rfl)) ?_
    cases ho
    exact h _ (Or.inl rfl) h2
  · rw [if_neg c1] at ho
    refine us_aload_n hR dL_spoils_318 rfl ?_
    refine us_iload hR dL_spoils_319 rfl ?_
    refine us_iload hR dL_spoils_321 rfl ?_
    refine us_iadd hR dL_spoils_323 ?_
    refine us_iconstC hR dL_spoils_324 (c := 3) (by decide) ?_
    refine us_iadd hR dL_spoils_325 ?_
    have hg := gd_c ho
    rw [gd_e hg] at ho
    have hme := hg
    have hb := gd_c ho
    rw [gd_e hb] at ho
    refine us_callSc 1 6 hR dL_spoils_326 (y := 13003) (by decide +kernel) (by decide) (J := i13003) rfl rfl rfl rfl (rest := _) (Nat.le_of_ble_eq_true rfl) rfl rfl hb.1 hb.2 ?_
    obtain ⟨q2, hs2⟩ := bO_ex ho
    obtain ⟨T2, r2⟩ := q2
    replace ho := bO_go ho hs2
    refine sh_13003 h2.1 hme hs2 (fun G2 h32 hF2 => ?_)
    have h22 := h2.cls h32 hF2
    obtain ⟨S2, hS2⟩ : ∃ Sz, Sz = lT S T2 := ⟨_, rfl⟩
    rw [bS_eq, ← hS2] at ho
    rw [← hS2] at h22
    refine us_ldc hR dL_spoils_329 (v := (-1000002)) (by decide +kernel) ?_
    refine us_icmp_ne hR dL_spoils_331 379 (by decide) (fun c3 => ?_) (fun c3 => ?_)
    · rw [if_neg c3] at ho
      refine us_iconstC hR dL_spoils_379 (c := 0) (by decide) ?_
      refine us_iret hR dL_spoils_380 rfl (nar01 (Or.inl rfl)) ?_
      cases ho
      exact h _ (Or.inl rfl) h22
    · rw [if_pos c3] at ho
      refine us_aload_n hR dL_spoils_334 rfl ?_
      refine us_iload hR dL_spoils_335 rfl ?_
      refine us_iconstC hR dL_spoils_337 (c := 2) (by decide) ?_
      refine us_iadd hR dL_spoils_338 ?_
      have hg := gd_c ho
      rw [gd_e hg] at ho
      have hme := hg
      have hb := gd_c ho
      rw [gd_e hb] at ho
      refine us_callSc 1 6 hR dL_spoils_339 (y := 13003) (by decide +kernel) (by decide) (J := i13003) rfl rfl rfl rfl (rest := _) (Nat.le_of_ble_eq_true rfl) rfl rfl hb.1 hb.2 ?_
      obtain ⟨q4, hs4⟩ := bO_ex ho
      obtain ⟨T4, r4⟩ := q4
      replace ho := bO_go ho hs4
      refine sh_13003 h22.1 hme hs4 (fun G4 h34 hF4 => ?_)
      have h24 := h22.cls h34 hF4
      obtain ⟨S4, hS4⟩ : ∃ Sz, Sz = lT S2 T4 := ⟨_, rfl⟩
      rw [bS_eq, ← hS4] at ho
      rw [← hS4] at h24
      refine us_iload hR dL_spoils_342 rfl ?_
      refine us_icmp_ne hR dL_spoils_344 379 (by decide) (fun c5 => ?_) (fun c5 => ?_)
      · rw [if_neg c5] at ho
        refine us_iconstC hR dL_spoils_379 (c := 0) (by decide) ?_
        refine us_iret hR dL_spoils_380 rfl (nar01 (Or.inl rfl)) ?_
        cases ho
        exact h _ (Or.inl rfl) h24
      · rw [if_pos c5] at ho
        refine us_aload_n hR dL_spoils_347 rfl ?_
        have hg := gd_c ho
        rw [gd_e hg] at ho
        have hb := gd_c ho
        rw [gd_e hb] at ho
        refine us_callVc 40 3700 hR dL_spoils_348 (y := 11006) (by decide +kernel) (by decide) (J := i11006) rfl rfl rfl rfl (H_kind1 h24.1 hg (by decide)) rfl (Nat.le_of_ble_eq_true rfl) rfl rfl hb.1 hb.2 ?_
        obtain ⟨q6, hs6⟩ := bO_ex ho
        obtain ⟨T6, r6⟩ := q6
        replace ho := bO_go ho hs6
        refine sh_11006 h24.1 hs6 (fun G6 h36 hF6 => ?_)
        have h26 := h24.cls h36 hF6
        obtain ⟨S6, hS6⟩ : ∃ Sz, Sz = lT S4 T6 := ⟨_, rfl⟩
        rw [bS_eq, ← hS6] at ho
        rw [← hS6] at h26
        refine us_if_ne hR dL_spoils_351 379 (by decide) (fun c7 => ?_) (fun c7 => ?_)
        · rw [if_neg c7] at ho
          refine us_iconstC hR dL_spoils_379 (c := 0) (by decide) ?_
          refine us_iret hR dL_spoils_380 rfl (nar01 (Or.inl rfl)) ?_
          cases ho
          exact h _ (Or.inl rfl) h26
        · rw [if_pos c7] at ho
          refine us_aload_n hR dL_spoils_354 rfl ?_
          have hg := gd_c ho
          rw [gd_e hg] at ho
          have hme := hg
          have hb := gd_c ho
          rw [gd_e hb] at ho
          refine us_callSc 41 3706 hR dL_spoils_355 (y := 13005) (by decide +kernel) (by decide) (J := i13005) rfl rfl rfl rfl (rest := _) (Nat.le_of_ble_eq_true rfl) rfl rfl hb.1 hb.2 ?_
          obtain ⟨q8, hs8⟩ := bO_ex ho
          obtain ⟨T8, r8⟩ := q8
          replace ho := bO_go ho hs8
          refine sh_13005 h26.1 hme hs8 (fun G8 h38 hF8 => ?_)
          have h28 := h26.cls h38 hF8
          obtain ⟨S8, hS8⟩ : ∃ Sz, Sz = lT S6 T8 := ⟨_, rfl⟩
          rw [bS_eq, ← hS8] at ho
          rw [← hS8] at h28
          refine us_aload_n hR dL_spoils_358 rfl ?_
          refine us_iconstC hR dL_spoils_359 (c := 3) (by decide) ?_
          have hg := gd_c ho
          rw [gd_e hg] at ho
          refine ul_iaload h28 hg hR dL_spoils_360 ?_
          refine us_icmp_ne hR dL_spoils_361 379 (by decide) (fun c9 => ?_) (fun c9 => ?_)
          · rw [if_neg c9] at ho
            refine us_iconstC hR dL_spoils_379 (c := 0) (by decide) ?_
            refine us_iret hR dL_spoils_380 rfl (nar01 (Or.inl rfl)) ?_
            cases ho
            exact h _ (Or.inl rfl) h28
          · rw [if_pos c9] at ho
            refine us_aload_n hR dL_spoils_364 rfl ?_
            refine us_iload hR dL_spoils_365 rfl ?_
            have hg := gd_c ho
            rw [gd_e hg] at ho
            have hme := hg
            have hb := gd_c ho
            rw [gd_e hb] at ho
            refine us_callSc 1 6 hR dL_spoils_367 (y := 13004) (by decide +kernel) (by decide) (J := i13004) rfl rfl rfl rfl (rest := _) (Nat.le_of_ble_eq_true rfl) rfl rfl hb.1 hb.2 ?_
            obtain ⟨r10, hr10⟩ := bP_ex ho
            replace ho := bP_go ho hr10
            refine sh_13004 h28.1 hme hr10 ?_
            refine us_ldc hR dL_spoils_370 (v := (-1000001)) (by decide +kernel) ?_
            refine us_icmp_ne hR dL_spoils_372 379 (by decide) (fun c11 => ?_) (fun c11 => ?_)
            · rw [if_neg c11] at ho
              refine us_iconstC hR dL_spoils_379 (c := 0) (by decide) ?_
              refine us_iret hR dL_spoils_380 rfl (nar01 (Or.inl rfl)) ?_
              cases ho
              exact h _ (Or.inl rfl) h28
            · rw [if_pos c11] at ho
              refine us_iconstC hR dL_spoils_375 (c := 1) (by decide) ?_
              refine us_goto hR dL_spoils_376 380 (by decide) ?_
              refine us_iret hR dL_spoils_380 rfl (nar01 (Or.inr rfl)) ?_
              cases ho
              exact h _ (Or.inr rfl) h28
set_option maxHeartbeats 2000000 in
set_option maxRecDepth 8000 in
theorem n13036_J310 {d : Nat} {P : ab_Pq} {X : ab_Xq} {o : Lx × Int32} {R : ab_K} (hR : ab_Cl (d + 916) (ab_Gam (d + 916)) (mCi i13036) i13036 0 (fun _ => 0) P X R) (h : ∀ G1, (o.2 = 0 ∨ o.2 = 1) → LRep G1 o.1 → P G1 (some (.int o.2))) : ∀ (l0 : Nat) (l1 : Nat) (l2 : Int32) (l3 : Int32) (l4 : Int32) (l5 : Int32) (l6 : Int32) (l7 : Int32) (l8 : Int32) (l9 : Int32) (l10 : Int32)  (S : Lx) (Ga : ab_G) (bc bs : Nat) (h2 : LRep Ga S) (ho : l_13036_J310 l0 l1 l2 l3 l4 l5 l6 l7 l8 l9 l10 bc bs S = some o), R 310 [some (.ref l0), some (.ref l1), some (.int l2), some (.int l3), some (.int l4), some (.int l5), some (.int l6), some (.int l7), some (.int l8), some (.int l9), some (.int l10)] [] Ga bc bs := by
  have h13036_J311 := n13036_J311 hR h 
  intro l0 l1 l2 l3 l4 l5 l6 l7 l8 l9 l10  S Ga bc bs h2 ho
  unfold l_13036_J310 at ho
  refine us_iconstC hR dL_spoils_310 (c := 0) (by decide) ?_
  exact h13036_J311 l0 l1 l2 l3 l4 l5 l6 l7 l8 l9 l10 0  S Ga _ _ h2 ho
set_option maxHeartbeats 2000000 in
set_option maxRecDepth 8000 in
theorem n13036_L239 {d : Nat} {P : ab_Pq} {X : ab_Xq} {o : Lx × Int32} {R : ab_K} (hR : ab_Cl (d + 916) (ab_Gam (d + 916)) (mCi i13036) i13036 0 (fun _ => 0) P X R) (h : ∀ G1, (o.2 = 0 ∨ o.2 = 1) → LRep G1 o.1 → P G1 (some (.int o.2))) : ∀ (n : Nat) (l0 : Nat) (l1 : Nat) (l2 : Int32) (l3 : Int32) (l4 : Int32) (l5 : Int32) (l6 : Int32) (l7 : Int32) (l8 : Int32) (l9 : Int32) (l10 : Int32)  (S : Lx) (Ga : ab_G) (bc bs : Nat) (h2 : LRep Ga S) (ho : l_13036_L239 n l0 l1 l2 l3 l4 l5 l6 l7 l8 l9 l10 bc bs S = some o), R 239 [some (.ref l0), some (.ref l1), some (.int l2), some (.int l3), some (.int l4), some (.int l5), some (.int l6), some (.int l7), some (.int l8), some (.int l9), some (.int l10)] [] Ga bc bs := by
  have h13036_J311 := n13036_J311 hR h 
  have h13036_J310 := n13036_J310 hR h 
  intro n
  induction n with
  | zero => intro l0 l1 l2 l3 l4 l5 l6 l7 l8 l9 l10  S Ga bc bs h2 ho; exact absurd ho (by rw [l_13036_L239]; intro hc; cases hc)
  | succ n239 ih239 =>
    intro l0 l1 l2 l3 l4 l5 l6 l7 l8 l9 l10  S Ga bc bs h2 ho
    rw [l_13036_L239] at ho
    refine us_iload hR dL_spoils_239 rfl ?_
    refine us_iload hR dL_spoils_241 rfl ?_
    refine us_icmp_ge hR dL_spoils_243 283 (by decide) (fun c12 => ?_) (fun c12 => ?_)
    · rw [if_pos c12] at ho
      refine us_iload hR dL_spoils_283 rfl ?_
      refine us_if_eq hR dL_spoils_285 310 (by decide) (fun c13 => ?_) (fun c13 => ?_)
      · rw [if_pos c13] at ho
        exact h13036_J310 l0 l1 l2 l3 l4 l5 l6 l7 l8 l9 l10  S Ga _ _ h2 ho
      · rw [if_neg c13] at ho
        refine us_aload_n hR dL_spoils_288 rfl ?_
        have hg := gd_c ho
        rw [gd_e hg] at ho
        have hb := gd_c ho
        rw [gd_e hb] at ho
        refine us_callVc 40 3700 hR dL_spoils_289 (y := 11006) (by decide +kernel) (by decide) (J := i11006) rfl rfl rfl rfl (H_kind1 h2.1 hg (by decide)) rfl (Nat.le_of_ble_eq_true rfl) rfl rfl hb.1 hb.2 ?_
        obtain ⟨q14, hs14⟩ := bO_ex ho
        obtain ⟨T14, r14⟩ := q14
        replace ho := bO_go ho hs14
        refine sh_11006 h2.1 hs14 (fun G14 h314 hF14 => ?_)
        have h214 := h2.cls h314 hF14
        obtain ⟨S14, hS14⟩ : ∃ Sz, Sz = lT S T14 := ⟨_, rfl⟩
        rw [bS_eq, ← hS14] at ho
        rw [← hS14] at h214
        refine us_iload hR dL_spoils_292 rfl ?_
        refine us_icmp_ne hR dL_spoils_294 310 (by decide) (fun c15 => ?_) (fun c15 => ?_)
        · rw [if_neg c15] at ho
          exact h13036_J310 l0 l1 l2 l3 l4 l5 l6 l7 l8 l9 l10  S14 G14 _ _ h214 ho
        · rw [if_pos c15] at ho
          refine us_aload_n hR dL_spoils_297 rfl ?_
          have hg := gd_c ho
          rw [gd_e hg] at ho
          have hb := gd_c ho
          rw [gd_e hb] at ho
          refine us_callVc 40 3700 hR dL_spoils_298 (y := 11007) (by decide +kernel) (by decide) (J := i11007) rfl rfl rfl rfl (H_kind1 h214.1 hg (by decide)) rfl (Nat.le_of_ble_eq_true rfl) rfl rfl hb.1 hb.2 ?_
          obtain ⟨q16, hs16⟩ := bO_ex ho
          obtain ⟨T16, r16⟩ := q16
          replace ho := bO_go ho hs16
          refine sh_11007 h214.1 hs16 (fun G16 h316 hF16 => ?_)
          have h216 := h214.cls h316 hF16
          obtain ⟨S16, hS16⟩ : ∃ Sz, Sz = lT S14 T16 := ⟨_, rfl⟩
          rw [bS_eq, ← hS16] at ho
          rw [← hS16] at h216
          refine us_iload hR dL_spoils_301 rfl ?_
          refine us_icmp_ne hR dL_spoils_303 310 (by decide) (fun c17 => ?_) (fun c17 => ?_)
          · rw [if_neg c17] at ho
            exact h13036_J310 l0 l1 l2 l3 l4 l5 l6 l7 l8 l9 l10  S16 G16 _ _ h216 ho
          · rw [if_pos c17] at ho
            refine us_iconstC hR dL_spoils_306 (c := 1) (by decide) ?_
            refine us_goto hR dL_spoils_307 311 (by decide) ?_
            exact h13036_J311 l0 l1 l2 l3 l4 l5 l6 l7 l8 l9 l10 1  S16 G16 _ _ h216 ho
    · rw [if_neg c12] at ho
      refine us_iload hR dL_spoils_246 rfl ?_
      refine us_if_eq hR dL_spoils_248 274 (by decide) (fun c18 => ?_) (fun c18 => ?_)
      · rw [if_pos c18] at ho
        refine us_iconstC hR dL_spoils_274 (c := 0) (by decide) ?_
        refine us_istore hR dL_spoils_275 (Nat.le_of_ble_eq_true rfl) ?_
        refine us_iincC hR dL_spoils_277 rfl (Nat.le_of_ble_eq_true rfl) (c := 1) (by decide) ?_
        change R _ [some (.ref l0), some (.ref l1), some (.int l2), some (.int l3), some (.int l4), some (.int l5), some (.int l6), some (.int 0), some (.int l8), some (.int l9), some (.int (l10 + 1))] _ _ _ _
        refine us_goto hR dL_spoils_280 239 (by decide) ?_
        exact ih239 l0 l1 l2 l3 l4 l5 l6 0 l8 l9 (l10 + 1)  S Ga _ _ h2 ho
      · rw [if_neg c18] at ho
        refine us_aload_n hR dL_spoils_251 rfl ?_
        refine us_bipushC hR dL_spoils_252 (c := 33) (by decide) ?_
        refine us_iload_n hR dL_spoils_254 rfl ?_
        refine us_iload hR dL_spoils_255 rfl ?_
        refine us_ishr hR dL_spoils_257 ?_
        refine us_bipushC hR dL_spoils_258 (c := 90) (by decide) ?_
        refine us_callS0 hR dL_spoils_260 (y := 13001) (by decide +kernel) (by decide) (J := i13001) rfl rfl rfl rfl (rest := _) (Nat.le_of_ble_eq_true rfl) rfl rfl ?_
        obtain ⟨r19, hr19⟩ := bP_ex ho
        replace ho := bP_go ho hr19
        refine sh_13001 h2.1 hr19 ?_
        refine us_iadd hR dL_spoils_263 ?_
        have hb := gd_c ho
        rw [gd_e hb] at ho
        refine us_callSc 2 12 hR dL_spoils_264 (y := 13028) (by decide +kernel) (by decide) (J := i13028) rfl rfl rfl rfl (rest := _) (Nat.le_of_ble_eq_true rfl) rfl rfl hb.1 hb.2 ?_
        obtain ⟨q20, hs20⟩ := bO_ex ho
        obtain ⟨T20, r20⟩ := q20
        replace ho := bO_go ho hs20
        refine sh_13028 h2.1 hs20 (fun G20 hb20 h320 hF20 => ?_)
        have h220 := h2.cls h320 hF20
        obtain ⟨S20, hS20⟩ : ∃ Sz, Sz = lT S T20 := ⟨_, rfl⟩
        rw [bS_eq, ← hS20] at ho
        rw [← hS20] at h220
        refine us_if_eq hR dL_spoils_267 274 (by decide) (fun c21 => ?_) (fun c21 => ?_)
        · rw [if_pos c21] at ho
          refine us_iconstC hR dL_spoils_274 (c := 0) (by decide) ?_
          refine us_istore hR dL_spoils_275 (Nat.le_of_ble_eq_true rfl) ?_
          refine us_iincC hR dL_spoils_277 rfl (Nat.le_of_ble_eq_true rfl) (c := 1) (by decide) ?_
          change R _ [some (.ref l0), some (.ref l1), some (.int l2), some (.int l3), some (.int l4), some (.int l5), some (.int l6), some (.int 0), some (.int l8), some (.int l9), some (.int (l10 + 1))] _ _ _ _
          refine us_goto hR dL_spoils_280 239 (by decide) ?_
          exact ih239 l0 l1 l2 l3 l4 l5 l6 0 l8 l9 (l10 + 1)  S20 G20 _ _ h220 ho
        · rw [if_neg c21] at ho
          refine us_iconstC hR dL_spoils_270 (c := 1) (by decide) ?_
          refine us_goto hR dL_spoils_271 275 (by decide) ?_
          refine us_istore hR dL_spoils_275 (Nat.le_of_ble_eq_true rfl) ?_
          refine us_iincC hR dL_spoils_277 rfl (Nat.le_of_ble_eq_true rfl) (c := 1) (by decide) ?_
          change R _ [some (.ref l0), some (.ref l1), some (.int l2), some (.int l3), some (.int l4), some (.int l5), some (.int l6), some (.int 1), some (.int l8), some (.int l9), some (.int (l10 + 1))] _ _ _ _
          refine us_goto hR dL_spoils_280 239 (by decide) ?_
          exact ih239 l0 l1 l2 l3 l4 l5 l6 1 l8 l9 (l10 + 1)  S20 G20 _ _ h220 ho
set_option maxHeartbeats 2000000 in
set_option maxRecDepth 8000 in
theorem n13036_J199 {d : Nat} {P : ab_Pq} {X : ab_Xq} {o : Lx × Int32} {R : ab_K} (hR : ab_Cl (d + 916) (ab_Gam (d + 916)) (mCi i13036) i13036 0 (fun _ => 0) P X R) (h : ∀ G1, (o.2 = 0 ∨ o.2 = 1) → LRep G1 o.1 → P G1 (some (.int o.2))) : ∀ (l0 : Nat) (l1 : Nat) (l2 : Int32) (l3 : Int32) (l4 : Int32) (l5 : Int32) (l6 : Int32) (k0 : Int32)  (S : Lx) (Ga : ab_G) (bc bs : Nat) (h2 : LRep Ga S) (ho : l_13036_J199 l0 l1 l2 l3 l4 l5 l6 k0 bc bs S = some o), R 199 [some (.ref l0), some (.ref l1), some (.int l2), some (.int l3), some (.int l4), some (.int l5), some (.int l6), none, none, none, none] [.int k0] Ga bc bs := by
  have h13036_L239 := n13036_L239 hR h 
  intro l0 l1 l2 l3 l4 l5 l6 k0  S Ga bc bs h2 ho
  unfold l_13036_J199 at ho
  refine us_istore hR dL_spoils_199 (Nat.le_of_ble_eq_true rfl) ?_
  refine us_aload_n hR dL_spoils_201 rfl ?_
  have hg := gd_c ho
  rw [gd_e hg] at ho
  have hb := gd_c ho
  rw [gd_e hb] at ho
  refine us_callVc 40 3700 hR dL_spoils_202 (y := 11006) (by decide +kernel) (by decide) (J := i11006) rfl rfl rfl rfl (H_kind1 h2.1 hg (by decide)) rfl (Nat.le_of_ble_eq_true rfl) rfl rfl hb.1 hb.2 ?_
  obtain ⟨q22, hs22⟩ := bO_ex ho
  obtain ⟨T22, r22⟩ := q22
  replace ho := bO_go ho hs22
  refine sh_11006 h2.1 hs22 (fun G22 h322 hF22 => ?_)
  have h222 := h2.cls h322 hF22
  obtain ⟨S22, hS22⟩ : ∃ Sz, Sz = lT S T22 := ⟨_, rfl⟩
  rw [bS_eq, ← hS22] at ho
  rw [← hS22] at h222
  refine us_istore hR dL_spoils_205 (Nat.le_of_ble_eq_true rfl) ?_
  change R _ [some (.ref l0), some (.ref l1), some (.int l2), some (.int l3), some (.int l4), some (.int l5), some (.int l6), some (.int k0), some (.int r22), none, none] _ _ _ _
  refine us_iload_n hR dL_spoils_207 rfl ?_
  refine us_bipushC hR dL_spoils_208 (c := 9) (by decide) ?_
  refine us_callS0 hR dL_spoils_210 (y := 13001) (by decide +kernel) (by decide) (J := i13001) rfl rfl rfl rfl (rest := _) (Nat.le_of_ble_eq_true rfl) rfl rfl ?_
  obtain ⟨r23, hr23⟩ := bP_ex ho
  replace ho := bP_go ho hr23
  refine sh_13001 h222.1 hr23 ?_
  refine us_istore hR dL_spoils_213 (Nat.le_of_ble_eq_true rfl) ?_
  refine us_iload hR dL_spoils_215 rfl ?_
  refine us_if_eq hR dL_spoils_217 233 (by decide) (fun c24 => ?_) (fun c24 => ?_)
  · rw [if_pos c24] at ho
    refine us_iconstC hR dL_spoils_233 (c := 0) (by decide) ?_
    refine us_istore hR dL_spoils_234 (Nat.le_of_ble_eq_true rfl) ?_
    refine us_iconstC hR dL_spoils_236 (c := 0) (by decide) ?_
    refine us_istore hR dL_spoils_237 (Nat.le_of_ble_eq_true rfl) ?_
    exact h13036_L239 _ l0 l1 l2 l3 l4 l5 l6 0 r22 r23 0  S22 G22 _ _ h222 ho
  · rw [if_neg c24] at ho
    refine us_aload_n hR dL_spoils_220 rfl ?_
    refine us_bipushC hR dL_spoils_221 (c := 32) (by decide) ?_
    have hb := gd_c ho
    rw [gd_e hb] at ho
    refine us_callSc 2 12 hR dL_spoils_223 (y := 13028) (by decide +kernel) (by decide) (J := i13028) rfl rfl rfl rfl (rest := _) (Nat.le_of_ble_eq_true rfl) rfl rfl hb.1 hb.2 ?_
    obtain ⟨q25, hs25⟩ := bO_ex ho
    obtain ⟨T25, r25⟩ := q25
    replace ho := bO_go ho hs25
    refine sh_13028 h222.1 hs25 (fun G25 hb25 h325 hF25 => ?_)
    have h225 := h222.cls h325 hF25
    obtain ⟨S25, hS25⟩ : ∃ Sz, Sz = lT S22 T25 := ⟨_, rfl⟩
    rw [bS_eq, ← hS25] at ho
    rw [← hS25] at h225
    refine us_if_eq hR dL_spoils_226 233 (by decide) (fun c26 => ?_) (fun c26 => ?_)
    · rw [if_pos c26] at ho
      refine us_iconstC hR dL_spoils_233 (c := 0) (by decide) ?_
      refine us_istore hR dL_spoils_234 (Nat.le_of_ble_eq_true rfl) ?_
      refine us_iconstC hR dL_spoils_236 (c := 0) (by decide) ?_
      refine us_istore hR dL_spoils_237 (Nat.le_of_ble_eq_true rfl) ?_
      exact h13036_L239 _ l0 l1 l2 l3 l4 l5 l6 0 r22 r23 0  S25 G25 _ _ h225 ho
    · rw [if_neg c26] at ho
      refine us_iconstC hR dL_spoils_229 (c := 1) (by decide) ?_
      refine us_goto hR dL_spoils_230 234 (by decide) ?_
      refine us_istore hR dL_spoils_234 (Nat.le_of_ble_eq_true rfl) ?_
      refine us_iconstC hR dL_spoils_236 (c := 0) (by decide) ?_
      refine us_istore hR dL_spoils_237 (Nat.le_of_ble_eq_true rfl) ?_
      exact h13036_L239 _ l0 l1 l2 l3 l4 l5 l6 1 r22 r23 0  S25 G25 _ _ h225 ho
set_option maxHeartbeats 2000000 in
set_option maxRecDepth 8000 in
theorem n13036_J198 {d : Nat} {P : ab_Pq} {X : ab_Xq} {o : Lx × Int32} {R : ab_K} (hR : ab_Cl (d + 916) (ab_Gam (d + 916)) (mCi i13036) i13036 0 (fun _ => 0) P X R) (h : ∀ G1, (o.2 = 0 ∨ o.2 = 1) → LRep G1 o.1 → P G1 (some (.int o.2))) : ∀ (l0 : Nat) (l1 : Nat) (l2 : Int32) (l3 : Int32) (l4 : Int32) (l5 : Int32) (l6 : Int32)  (S : Lx) (Ga : ab_G) (bc bs : Nat) (h2 : LRep Ga S) (ho : l_13036_J198 l0 l1 l2 l3 l4 l5 l6 bc bs S = some o), R 198 [some (.ref l0), some (.ref l1), some (.int l2), some (.int l3), some (.int l4), some (.int l5), some (.int l6), none, none, none, none] [] Ga bc bs := by
  have h13036_J199 := n13036_J199 hR h 
  intro l0 l1 l2 l3 l4 l5 l6  S Ga bc bs h2 ho
  unfold l_13036_J198 at ho
  refine us_iconstC hR dL_spoils_198 (c := 0) (by decide) ?_
  exact h13036_J199 l0 l1 l2 l3 l4 l5 l6 0  S Ga _ _ h2 ho
set_option maxHeartbeats 2000000 in
set_option maxRecDepth 8000 in
theorem n13036_J191 {d : Nat} {P : ab_Pq} {X : ab_Xq} {o : Lx × Int32} {R : ab_K} (hR : ab_Cl (d + 916) (ab_Gam (d + 916)) (mCi i13036) i13036 0 (fun _ => 0) P X R) (h : ∀ G1, (o.2 = 0 ∨ o.2 = 1) → LRep G1 o.1 → P G1 (some (.int o.2))) : ∀ (l0 : Nat) (l1 : Nat) (l2 : Int32) (l3 : Int32) (l4 : Int32) (l5 : Int32) (l6 : Int32) (k0 : Int32) (k1 : Int32)  (S : Lx) (Ga : ab_G) (bc bs : Nat) (h2 : LRep Ga S) (ho : l_13036_J191 l0 l1 l2 l3 l4 l5 l6 k0 k1 bc bs S = some o), R 191 [some (.ref l0), some (.ref l1), some (.int l2), some (.int l3), some (.int l4), some (.int l5), some (.int l6), none, none, none, none] [.int k0, .int k1] Ga bc bs := by
  have h13036_J199 := n13036_J199 hR h 
  have h13036_J198 := n13036_J198 hR h 
  intro l0 l1 l2 l3 l4 l5 l6 k0 k1  S Ga bc bs h2 ho
  unfold l_13036_J191 at ho
  refine us_icmp_ne hR dL_spoils_191 198 (by decide) (fun c27 => ?_) (fun c27 => ?_)
  · rw [if_neg c27] at ho
    exact h13036_J198 l0 l1 l2 l3 l4 l5 l6  S Ga _ _ h2 ho
  · rw [if_pos c27] at ho
    refine us_iconstC hR dL_spoils_194 (c := 1) (by decide) ?_
    refine us_goto hR dL_spoils_195 199 (by decide) ?_
    exact h13036_J199 l0 l1 l2 l3 l4 l5 l6 1  S Ga _ _ h2 ho
set_option maxHeartbeats 2000000 in
set_option maxRecDepth 8000 in
theorem n13036_J134 {d : Nat} {P : ab_Pq} {X : ab_Xq} {o : Lx × Int32} {R : ab_K} (hR : ab_Cl (d + 916) (ab_Gam (d + 916)) (mCi i13036) i13036 0 (fun _ => 0) P X R) (h : ∀ G1, (o.2 = 0 ∨ o.2 = 1) → LRep G1 o.1 → P G1 (some (.int o.2))) : ∀ (l0 : Nat) (l1 : Nat) (l2 : Int32) (l3 : Int32) (l4 : Int32) (l5 : Int32) (l6 : Int32) (k0 : Int32) (k1 : Int32)  (S : Lx) (Ga : ab_G) (bc bs : Nat) (h2 : LRep Ga S) (ho : l_13036_J134 l0 l1 l2 l3 l4 l5 l6 k0 k1 bc bs S = some o), R 134 [some (.ref l0), some (.ref l1), some (.int l2), some (.int l3), some (.int l4), some (.int l5), some (.int l6), none, none, none, none] [.int k0, .int k1] Ga bc bs := by
  have h13036_J198 := n13036_J198 hR h 
  have h13036_J191 := n13036_J191 hR h 
  intro l0 l1 l2 l3 l4 l5 l6 k0 k1  S Ga bc bs h2 ho
  unfold l_13036_J134 at ho
  refine us_icmp_ne hR dL_spoils_134 198 (by decide) (fun c28 => ?_) (fun c28 => ?_)
  · rw [if_neg c28] at ho
    exact h13036_J198 l0 l1 l2 l3 l4 l5 l6  S Ga _ _ h2 ho
  · rw [if_pos c28] at ho
    refine us_aload_n hR dL_spoils_137 rfl ?_
    have hg := gd_c ho
    rw [gd_e hg] at ho
    have hb := gd_c ho
    rw [gd_e hb] at ho
    refine us_callVc 40 3700 hR dL_spoils_138 (y := 11007) (by decide +kernel) (by decide) (J := i11007) rfl rfl rfl rfl (H_kind1 h2.1 hg (by decide)) rfl (Nat.le_of_ble_eq_true rfl) rfl rfl hb.1 hb.2 ?_
    obtain ⟨q29, hs29⟩ := bO_ex ho
    obtain ⟨T29, r29⟩ := q29
    replace ho := bO_go ho hs29
    refine sh_11007 h2.1 hs29 (fun G29 h329 hF29 => ?_)
    have h229 := h2.cls h329 hF29
    obtain ⟨S29, hS29⟩ : ∃ Sz, Sz = lT S T29 := ⟨_, rfl⟩
    rw [bS_eq, ← hS29] at ho
    rw [← hS29] at h229
    refine us_iload hR dL_spoils_141 rfl ?_
    refine us_icmp_ne hR dL_spoils_143 198 (by decide) (fun c30 => ?_) (fun c30 => ?_)
    · rw [if_neg c30] at ho
      exact h13036_J198 l0 l1 l2 l3 l4 l5 l6  S29 G29 _ _ h229 ho
    · rw [if_pos c30] at ho
      refine us_aload_n hR dL_spoils_146 rfl ?_
      have hg := gd_c ho
      rw [gd_e hg] at ho
      have hme := hg
      have hb := gd_c ho
      rw [gd_e hb] at ho
      refine us_callSc 41 3706 hR dL_spoils_147 (y := 13005) (by decide +kernel) (by decide) (J := i13005) rfl rfl rfl rfl (rest := _) (Nat.le_of_ble_eq_true rfl) rfl rfl hb.1 hb.2 ?_
      obtain ⟨q31, hs31⟩ := bO_ex ho
      obtain ⟨T31, r31⟩ := q31
      replace ho := bO_go ho hs31
      refine sh_13005 h229.1 hme hs31 (fun G31 h331 hF31 => ?_)
      have h231 := h229.cls h331 hF31
      obtain ⟨S31, hS31⟩ : ∃ Sz, Sz = lT S29 T31 := ⟨_, rfl⟩
      rw [bS_eq, ← hS31] at ho
      rw [← hS31] at h231
      refine us_ldc hR dL_spoils_150 (v := (-1000003)) (by decide +kernel) ?_
      refine us_icmp_ne hR dL_spoils_152 198 (by decide) (fun c32 => ?_) (fun c32 => ?_)
      · rw [if_neg c32] at ho
        exact h13036_J198 l0 l1 l2 l3 l4 l5 l6  S31 G31 _ _ h231 ho
      · rw [if_pos c32] at ho
        refine us_aload_n hR dL_spoils_155 rfl ?_
        refine us_bipushC hR dL_spoils_156 (c := 9) (by decide) ?_
        refine us_iconstC hR dL_spoils_158 (c := 0) (by decide) ?_
        refine us_iconstC hR dL_spoils_159 (c := 0) (by decide) ?_
        have hg := gd_c ho
        rw [gd_e hg] at ho
        have hme := hg
        have hb := gd_c ho
        rw [gd_e hb] at ho
        refine us_callSc 42 3712 hR dL_spoils_160 (y := 13006) (by decide +kernel) (by decide) (J := i13006) rfl rfl rfl rfl (rest := _) (Nat.le_of_ble_eq_true rfl) rfl rfl hb.1 hb.2 ?_
        obtain ⟨q33, hs33⟩ := bO_ex ho
        obtain ⟨T33, r33⟩ := q33
        replace ho := bO_go ho hs33
        refine sh_13006 h231.1 hme hs33 (fun G33 h333 hF33 => ?_)
        have h233 := h231.cls h333 hF33
        obtain ⟨S33, hS33⟩ : ∃ Sz, Sz = lT S31 T33 := ⟨_, rfl⟩
        rw [bS_eq, ← hS33] at ho
        rw [← hS33] at h233
        refine us_ldc hR dL_spoils_163 (v := (-1000003)) (by decide +kernel) ?_
        refine us_icmp_ne hR dL_spoils_165 198 (by decide) (fun c34 => ?_) (fun c34 => ?_)
        · rw [if_neg c34] at ho
          exact h13036_J198 l0 l1 l2 l3 l4 l5 l6  S33 G33 _ _ h233 ho
        · rw [if_pos c34] at ho
          refine us_aload_n hR dL_spoils_168 rfl ?_
          refine us_iconstC hR dL_spoils_169 (c := 0) (by decide) ?_
          refine us_aload_n hR dL_spoils_170 rfl ?_
          refine us_iconstC hR dL_spoils_171 (c := 0) (by decide) ?_
          have hg := gd_c ho
          rw [gd_e hg] at ho
          refine ul_iaload h233 hg hR dL_spoils_172 ?_
          refine us_iconstC hR dL_spoils_173 (c := 1) (by decide) ?_
          refine us_isub hR dL_spoils_174 ?_
          have hg := gd_c ho
          rw [gd_e hg] at ho
          have hme := hg
          have hb := gd_c ho
          rw [gd_e hb] at ho
          refine us_callSc 130 9200 hR dL_spoils_175 (y := 13014) (by decide +kernel) (by decide) (J := i13014) rfl rfl rfl rfl (rest := _) (Nat.le_of_ble_eq_true rfl) rfl rfl hb.1 hb.2 ?_
          obtain ⟨q35, hs35⟩ := bO_ex ho
          obtain ⟨T35, r35⟩ := q35
          replace ho := bO_go ho hs35
          refine sh_13014 h233.1 hme hs35 (fun G35 h335 hF35 => ?_)
          have h235 := h233.cls h335 hF35
          obtain ⟨S35, hS35⟩ : ∃ Sz, Sz = lT S33 T35 := ⟨_, rfl⟩
          rw [bS_eq, ← hS35] at ho
          rw [← hS35] at h235
          refine us_aload_n hR dL_spoils_178 rfl ?_
          refine us_iconstC hR dL_spoils_179 (c := 0) (by decide) ?_
          have hg := gd_c ho
          rw [gd_e hg] at ho
          refine ul_iaload h235 hg hR dL_spoils_180 ?_
          refine us_if_ne hR dL_spoils_181 189 (by decide) (fun c36 => ?_) (fun c36 => ?_)
          · rw [if_neg c36] at ho
            refine us_ldc hR dL_spoils_189 (v := (-1000003)) (by decide +kernel) ?_
            exact h13036_J191 l0 l1 l2 l3 l4 l5 l6 (-1000003) r35  S35 G35 _ _ h235 ho
          · rw [if_pos c36] at ho
            refine us_ldc hR dL_spoils_184 (v := (-1000001)) (by decide +kernel) ?_
            refine us_goto hR dL_spoils_186 191 (by decide) ?_
            exact h13036_J191 l0 l1 l2 l3 l4 l5 l6 (-1000001) r35  S35 G35 _ _ h235 ho
set_option maxHeartbeats 2000000 in
set_option maxRecDepth 8000 in
theorem n13036_J129 {d : Nat} {P : ab_Pq} {X : ab_Xq} {o : Lx × Int32} {R : ab_K} (hR : ab_Cl (d + 916) (ab_Gam (d + 916)) (mCi i13036) i13036 0 (fun _ => 0) P X R) (h : ∀ G1, (o.2 = 0 ∨ o.2 = 1) → LRep G1 o.1 → P G1 (some (.int o.2))) : ∀ (l0 : Nat) (l1 : Nat) (l2 : Int32) (l3 : Int32) (l4 : Int32) (l5 : Int32) (l6 : Int32) (k0 : Int32)  (S : Lx) (Ga : ab_G) (bc bs : Nat) (h2 : LRep Ga S) (ho : l_13036_J129 l0 l1 l2 l3 l4 l5 l6 k0 bc bs S = some o), R 129 [some (.ref l0), some (.ref l1), some (.int l2), some (.int l3), some (.int l4), some (.int l5), some (.int l6), none, none, none, none] [.int k0] Ga bc bs := by
  have h13036_J134 := n13036_J134 hR h 
  intro l0 l1 l2 l3 l4 l5 l6 k0  S Ga bc bs h2 ho
  unfold l_13036_J129 at ho
  refine us_iconstC hR dL_spoils_129 (c := 1) (by decide) ?_
  refine us_goto hR dL_spoils_130 134 (by decide) ?_
  exact h13036_J134 l0 l1 l2 l3 l4 l5 l6 1 k0  S Ga _ _ h2 ho
set_option maxHeartbeats 2000000 in
set_option maxRecDepth 8000 in
theorem n13036_J102 {d : Nat} {P : ab_Pq} {X : ab_Xq} {o : Lx × Int32} {R : ab_K} (hR : ab_Cl (d + 916) (ab_Gam (d + 916)) (mCi i13036) i13036 0 (fun _ => 0) P X R) (h : ∀ G1, (o.2 = 0 ∨ o.2 = 1) → LRep G1 o.1 → P G1 (some (.int o.2))) : ∀ (l0 : Nat) (l1 : Nat) (l2 : Int32) (l3 : Int32) (l4 : Int32) (l5 : Int32) (k0 : Int32)  (S : Lx) (Ga : ab_G) (bc bs : Nat) (h2 : LRep Ga S) (ho : l_13036_J102 l0 l1 l2 l3 l4 l5 k0 bc bs S = some o), R 102 [some (.ref l0), some (.ref l1), some (.int l2), some (.int l3), some (.int l4), some (.int l5), none, none, none, none, none] [.int k0] Ga bc bs := by
  have h13036_J198 := n13036_J198 hR h 
  have h13036_J134 := n13036_J134 hR h 
  have h13036_J129 := n13036_J129 hR h 
  intro l0 l1 l2 l3 l4 l5 k0  S Ga bc bs h2 ho
  unfold l_13036_J102 at ho
  refine us_istore hR dL_spoils_102 (Nat.le_of_ble_eq_true rfl) ?_
  refine us_aload_n hR dL_spoils_104 rfl ?_
  refine us_iload hR dL_spoils_105 rfl ?_
  have hb := gd_c ho
  rw [gd_e hb] at ho
  refine us_callSc 2 12 hR dL_spoils_107 (y := 13028) (by decide +kernel) (by decide) (J := i13028) rfl rfl rfl rfl (rest := _) (Nat.le_of_ble_eq_true rfl) rfl rfl hb.1 hb.2 ?_
  obtain ⟨q37, hs37⟩ := bO_ex ho
  obtain ⟨T37, r37⟩ := q37
  replace ho := bO_go ho hs37
  refine sh_13028 h2.1 hs37 (fun G37 hb37 h337 hF37 => ?_)
  have h237 := h2.cls h337 hF37
  obtain ⟨S37, hS37⟩ : ∃ Sz, Sz = lT S T37 := ⟨_, rfl⟩
  rw [bS_eq, ← hS37] at ho
  rw [← hS37] at h237
  refine us_if_eq hR dL_spoils_110 198 (by decide) (fun c38 => ?_) (fun c38 => ?_)
  · rw [if_pos c38] at ho
    exact h13036_J198 l0 l1 l2 l3 l4 l5 k0  S37 G37 _ _ h237 ho
  · rw [if_neg c38] at ho
    refine us_aload_n hR dL_spoils_113 rfl ?_
    have hg := gd_c ho
    rw [gd_e hg] at ho
    have hb := gd_c ho
    rw [gd_e hb] at ho
    refine us_callVc 40 3700 hR dL_spoils_114 (y := 11006) (by decide +kernel) (by decide) (J := i11006) rfl rfl rfl rfl (H_kind1 h237.1 hg (by decide)) rfl (Nat.le_of_ble_eq_true rfl) rfl rfl hb.1 hb.2 ?_
    obtain ⟨q39, hs39⟩ := bO_ex ho
    obtain ⟨T39, r39⟩ := q39
    replace ho := bO_go ho hs39
    refine sh_11006 h237.1 hs39 (fun G39 h339 hF39 => ?_)
    have h239 := h237.cls h339 hF39
    obtain ⟨S39, hS39⟩ : ∃ Sz, Sz = lT S37 T39 := ⟨_, rfl⟩
    rw [bS_eq, ← hS39] at ho
    rw [← hS39] at h239
    refine us_iload hR dL_spoils_117 rfl ?_
    refine us_iconstC hR dL_spoils_119 (c := 2) (by decide) ?_
    refine us_icmp_eq hR dL_spoils_120 129 (by decide) (fun c40 => ?_) (fun c40 => ?_)
    · rw [if_pos c40] at ho
      exact h13036_J129 l0 l1 l2 l3 l4 l5 k0 r39  S39 G39 _ _ h239 ho
    · rw [if_neg c40] at ho
      refine us_iload hR dL_spoils_123 rfl ?_
      refine us_iconstC hR dL_spoils_125 (c := 3) (by decide) ?_
      refine us_icmp_ne hR dL_spoils_126 133 (by decide) (fun c41 => ?_) (fun c41 => ?_)
      · rw [if_neg c41] at ho
        refine us_iconstC hR dL_spoils_133 (c := 3) (by decide) ?_
        exact h13036_J134 l0 l1 l2 l3 l4 l5 k0 3 r39  S39 G39 _ _ h239 ho
      · rw [if_pos c41] at ho
        exact h13036_J129 l0 l1 l2 l3 l4 l5 k0 r39  S39 G39 _ _ h239 ho
set_option maxHeartbeats 2000000 in
set_option maxRecDepth 8000 in
theorem sl_13036 {d : Nat} {G : ab_G} {S : Lx} {P : ab_Pq} {X : ab_Xq} (h2 : LRep G S) {x0 : Nat} {x1 : Nat} {x2 : Int32} {x3 : Int32} {o : Lx × Int32} (ho : l_13036 x0 x1 x2 x3 S = some o) (h : ∀ G1, (o.2 = 0 ∨ o.2 = 1) → LRep G1 o.1 → P G1 (some (.int o.2))) : ab_Gam (d + 917) 13036 [.ref x0, .ref x1, .int x2, .int x3] G P X := by
  unfold l_13036 at ho
  refine ab_enter (I := i13036) rfl (Nat.le_of_ble_eq_true rfl) (fun R hR => ?_)
  have h13036_J102 := n13036_J102 hR h 
  change R _ [some (.ref x0), some (.ref x1), some (.int x2), some (.int x3), none, none, none, none, none, none, none] _ _ 620 44000
  refine us_aload_n hR dL_spoils_0 rfl ?_
  have hg := gd_c ho
  rw [gd_e hg] at ho
  refine us_callV0 hR dL_spoils_1 (y := 11004) (by decide +kernel) (by decide) (J := i11004) rfl rfl rfl rfl (H_kind1 h2.1 hg (by decide)) rfl (Nat.le_of_ble_eq_true rfl) rfl rfl ?_
  obtain ⟨r42, hr42⟩ := bP_ex ho
  replace ho := bP_go ho hr42
  refine sh_11004 h2.1 hr42 ?_
  refine us_istore hR dL_spoils_4 (Nat.le_of_ble_eq_true rfl) ?_
  refine us_iload hR dL_spoils_6 rfl ?_
  refine us_sipushC hR dL_spoils_8 (c := 280) (by decide) ?_
  refine us_icmp_le hR dL_spoils_11 27 (by decide) (fun c43 => ?_) (fun c43 => ?_)
  · rw [if_pos c43] at ho
    change R _ [some (.ref x0), some (.ref x1), some (.int x2), some (.int x3), some (.int r42), none, none, none, none, none, none] _ _ 620 44000
    refine us_iload_n hR dL_spoils_27 rfl ?_
    refine us_bipushC hR dL_spoils_28 (c := 7) (by decide) ?_
    refine us_callS0 hR dL_spoils_30 (y := 13001) (by decide +kernel) (by decide) (J := i13001) rfl rfl rfl rfl (rest := _) (Nat.le_of_ble_eq_true rfl) rfl rfl ?_
    obtain ⟨r44, hr44⟩ := bP_ex ho
    replace ho := bP_go ho hr44
    refine sh_13001 h2.1 hr44 ?_
    refine us_istore hR dL_spoils_33 (Nat.le_of_ble_eq_true rfl) ?_
    refine us_iload hR dL_spoils_35 rfl ?_
    refine us_if_ne hR dL_spoils_37 45 (by decide) (fun c45 => ?_) (fun c45 => ?_)
    · rw [if_neg c45] at ho
      change R _ [some (.ref x0), some (.ref x1), some (.int x2), some (.int x3), some (.int r42), some (.int r44), none, none, none, none, none] _ _ 620 44000
      refine us_iload hR dL_spoils_45 rfl ?_
      refine us_iconstC hR dL_spoils_47 (c := 1) (by decide) ?_
      refine us_icmp_ne hR dL_spoils_48 56 (by decide) (fun c46 => ?_) (fun c46 => ?_)
      · rw [if_neg c46] at ho
        change R _ [some (.ref x0), some (.ref x1), some (.int x2), some (.int x3), some (.int r42), some (.int r44), none, none, none, none, none] _ _ 620 44000
        refine us_iload hR dL_spoils_56 rfl ?_
        refine us_iconstC hR dL_spoils_58 (c := 2) (by decide) ?_
        refine us_icmp_ne hR dL_spoils_59 67 (by decide) (fun c47 => ?_) (fun c47 => ?_)
        · rw [if_neg c47] at ho
          change R _ [some (.ref x0), some (.ref x1), some (.int x2), some (.int x3), some (.int r42), some (.int r44), none, none, none, none, none] _ _ 620 44000
          refine us_iload hR dL_spoils_67 rfl ?_
          refine us_iconstC hR dL_spoils_69 (c := 3) (by decide) ?_
          refine us_icmp_ne hR dL_spoils_70 78 (by decide) (fun c48 => ?_) (fun c48 => ?_)
          · rw [if_neg c48] at ho
            change R _ [some (.ref x0), some (.ref x1), some (.int x2), some (.int x3), some (.int r42), some (.int r44), none, none, none, none, none] _ _ 620 44000
            refine us_iload hR dL_spoils_78 rfl ?_
            refine us_iconstC hR dL_spoils_80 (c := 4) (by decide) ?_
            refine us_icmp_ne hR dL_spoils_81 89 (by decide) (fun c49 => ?_) (fun c49 => ?_)
            · rw [if_neg c49] at ho
              change R _ [some (.ref x0), some (.ref x1), some (.int x2), some (.int x3), some (.int r42), some (.int r44), none, none, none, none, none] _ _ 620 44000
              refine us_iload hR dL_spoils_89 rfl ?_
              refine us_iconstC hR dL_spoils_91 (c := 5) (by decide) ?_
              refine us_icmp_ne hR dL_spoils_92 100 (by decide) (fun c50 => ?_) (fun c50 => ?_)
              · rw [if_neg c50] at ho
                change R _ [some (.ref x0), some (.ref x1), some (.int x2), some (.int x3), some (.int r42), some (.int r44), none, none, none, none, none] _ _ 620 44000
                refine us_bipushC hR dL_spoils_100 (c := 61) (by decide) ?_
                exact h13036_J102 x0 x1 x2 x3 r42 r44 61  S G _ _ h2 ho
              · rw [if_pos c50] at ho
                change R _ [some (.ref x0), some (.ref x1), some (.int x2), some (.int x3), some (.int r42), some (.int r44), none, none, none, none, none] _ _ 620 44000
                refine us_bipushC hR dL_spoils_95 (c := 53) (by decide) ?_
                refine us_goto hR dL_spoils_97 102 (by decide) ?_
                exact h13036_J102 x0 x1 x2 x3 r42 r44 53  S G _ _ h2 ho
            · rw [if_pos c49] at ho
              change R _ [some (.ref x0), some (.ref x1), some (.int x2), some (.int x3), some (.int r42), some (.int r44), none, none, none, none, none] _ _ 620 44000
              refine us_bipushC hR dL_spoils_84 (c := 59) (by decide) ?_
              refine us_goto hR dL_spoils_86 102 (by decide) ?_
              exact h13036_J102 x0 x1 x2 x3 r42 r44 59  S G _ _ h2 ho
          · rw [if_pos c48] at ho
            change R _ [some (.ref x0), some (.ref x1), some (.int x2), some (.int x3), some (.int r42), some (.int r44), none, none, none, none, none] _ _ 620 44000
            refine us_bipushC hR dL_spoils_73 (c := 65) (by decide) ?_
            refine us_goto hR dL_spoils_75 102 (by decide) ?_
            exact h13036_J102 x0 x1 x2 x3 r42 r44 65  S G _ _ h2 ho
        · rw [if_pos c47] at ho
          change R _ [some (.ref x0), some (.ref x1), some (.int x2), some (.int x3), some (.int r42), some (.int r44), none, none, none, none, none] _ _ 620 44000
          refine us_bipushC hR dL_spoils_62 (c := 38) (by decide) ?_
          refine us_goto hR dL_spoils_64 102 (by decide) ?_
          exact h13036_J102 x0 x1 x2 x3 r42 r44 38  S G _ _ h2 ho
      · rw [if_pos c46] at ho
        change R _ [some (.ref x0), some (.ref x1), some (.int x2), some (.int x3), some (.int r42), some (.int r44), none, none, none, none, none] _ _ 620 44000
        refine us_bipushC hR dL_spoils_51 (c := 41) (by decide) ?_
        refine us_goto hR dL_spoils_53 102 (by decide) ?_
        exact h13036_J102 x0 x1 x2 x3 r42 r44 41  S G _ _ h2 ho
    · rw [if_pos c45] at ho
      change R _ [some (.ref x0), some (.ref x1), some (.int x2), some (.int x3), some (.int r42), some (.int r44), none, none, none, none, none] _ _ 620 44000
      refine us_bipushC hR dL_spoils_40 (c := 125) (by decide) ?_
      refine us_goto hR dL_spoils_42 102 (by decide) ?_
      exact h13036_J102 x0 x1 x2 x3 r42 r44 125  S G _ _ h2 ho
  · rw [if_neg c43] at ho
    change R _ [some (.ref x0), some (.ref x1), some (.int x2), some (.int x3), some (.int r42), none, none, none, none, none, none] _ _ 620 44000
    refine us_aload_n hR dL_spoils_14 rfl ?_
    have hg := gd_c ho
    rw [gd_e hg] at ho
    refine us_callVc 40 3700 hR dL_spoils_15 (y := 11006) (by decide +kernel) (by decide) (J := i11006) rfl rfl rfl rfl (H_kind1 h2.1 hg (by decide)) rfl (Nat.le_of_ble_eq_true rfl) rfl rfl (Nat.le_of_ble_eq_true rfl) (Nat.le_of_ble_eq_true rfl) ?_
    obtain ⟨q51, hs51⟩ := bO_ex ho
    obtain ⟨T51, r51⟩ := q51
    replace ho := bO_go ho hs51
    refine sh_11006 h2.1 hs51 (fun G51 h351 hF51 => ?_)
    have h251 := h2.cls h351 hF51
    obtain ⟨S51, hS51⟩ : ∃ Sz, Sz = lT S T51 := ⟨_, rfl⟩
    rw [bS_eq, ← hS51] at ho
    rw [← hS51] at h251
    change R _ [some (.ref x0), some (.ref x1), some (.int x2), some (.int x3), some (.int r42), none, none, none, none, none, none] _ _ 580 40300
    refine us_if_ne hR dL_spoils_18 25 (by decide) (fun c52 => ?_) (fun c52 => ?_)
    · rw [if_neg c52] at ho
      change R _ [some (.ref x0), some (.ref x1), some (.int x2), some (.int x3), some (.int r42), none, none, none, none, none, none] _ _ 580 40300
      refine us_iconstC hR dL_spoils_25 (c := 0) (by decide) ?_
      refine us_iret hR dL_spoils_26 rfl (nar01 (Or.inl rfl)) ?_
      cases ho
      exact h _ (Or.inl rfl) h251
    · rw [if_pos c52] at ho
      change R _ [some (.ref x0), some (.ref x1), some (.int x2), some (.int x3), some (.int r42), none, none, none, none, none, none] _ _ 580 40300
      refine us_iconstC hR dL_spoils_21 (c := 1) (by decide) ?_
      refine us_goto hR dL_spoils_22 26 (by decide) ?_
      refine us_iret hR dL_spoils_26 rfl (nar01 (Or.inr rfl)) ?_
      cases ho
      exact h _ (Or.inr rfl) h251
end
