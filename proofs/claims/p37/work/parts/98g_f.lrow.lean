/-! the law: handing in -/
noncomputable section
set_option maxHeartbeats 2000000 in
set_option maxRecDepth 8000 in
theorem n13039_J333 {d : Nat} {P : ab_Pq} {X : ab_Xq} {o : Lx × Int32} {R : ab_K} (hR : ab_Cl (d + 916) (ab_Gam (d + 916)) (mCi i13039) i13039 0 (fun _ => 0) P X R) (h : ∀ G1, (o.2 = 0 ∨ o.2 = 1) → LRep G1 o.1 → P G1 (some (.int o.2))) : ∀ (l0 : Nat) (l1 : Nat) (l2 : Nat) (l3 : Nat) (l4 : Nat) (l5 : Nat) (l6 : Int32) (l7 : Int32) (l8 : Int32) (l9 : Int32) (l10 : Int32) (l11 : Int32) (w12 : Option Value) (w13 : Option Value) (w14 : Option Value) (w15 : Option Value) (S : Lx) (Ga : ab_G) (bc bs : Nat) (h2 : LRep Ga S) (ho : l_13039_J333 l0 l1 l2 l3 l4 l5 l6 l7 l8 l9 l10 l11 bc bs S = some o), R 333 [some (.ref l0), some (.ref l1), some (.ref l2), some (.ref l3), some (.ref l4), some (.ref l5), some (.int l6), some (.int l7), some (.int l8), some (.int l9), some (.int l10), some (.int l11), w12, w13, w14, w15] [] Ga bc bs := by
  intro l0 l1 l2 l3 l4 l5 l6 l7 l8 l9 l10 l11 w12 w13 w14 w15 S Ga bc bs h2 ho
  unfold l_13039_J333 at ho
  refine us_iload hR dL_hands_333 rfl ?_
  refine us_if_eq hR dL_hands_335 371 (by decide) (fun c1 => ?_) (fun c1 => ?_)
  · rw [if_pos c1] at ho
    refine us_iconstC hR dL_hands_371 (c := 0) (by decide) ?_
    refine us_iret hR dL_hands_372 rfl (nar01 (Or.inl rfl)) ?_
    cases ho
    exact h _ (Or.inl rfl) h2
  · rw [if_neg c1] at ho
    refine us_aload_n hR dL_hands_338 rfl ?_
    refine us_iload hR dL_hands_339 rfl ?_
    refine us_aload_n hR dL_hands_341 rfl ?_
    refine us_iconstC hR dL_hands_342 (c := 4) (by decide) ?_
    refine us_iload hR dL_hands_343 rfl ?_
    refine us_iadd hR dL_hands_345 ?_
    have hg := gd_c ho
    rw [gd_e hg] at ho
    refine ul_iaload h2 hg hR dL_hands_346 ?_
    have hg := gd_c ho
    rw [gd_e hg] at ho
    have hme := hg
    have hb := gd_c ho
    rw [gd_e hb] at ho
    refine us_callSc 2 12 hR dL_hands_347 (y := 13016) (by decide +kernel) (by decide) (J := i13016) rfl rfl rfl rfl (rest := _) (Nat.le_of_ble_eq_true rfl) rfl rfl hb.1 hb.2 ?_
    obtain ⟨r2, hr2⟩ := bP_ex ho
    replace ho := bP_go ho hr2
    refine sh_13016 h2.1 hme hr2 ?_
    refine us_ldc hR dL_hands_350 (v := (-1000001)) (by decide +kernel) ?_
    refine us_icmp_ne hR dL_hands_352 371 (by decide) (fun c3 => ?_) (fun c3 => ?_)
    · rw [if_neg c3] at ho
      refine us_iconstC hR dL_hands_371 (c := 0) (by decide) ?_
      refine us_iret hR dL_hands_372 rfl (nar01 (Or.inl rfl)) ?_
      cases ho
      exact h _ (Or.inl rfl) h2
    · rw [if_pos c3] at ho
      refine us_aload_n hR dL_hands_355 rfl ?_
      refine us_iload hR dL_hands_356 rfl ?_
      refine us_iconstC hR dL_hands_358 (c := (-1)) (by decide) ?_
      have hg := gd_c ho
      rw [gd_e hg] at ho
      have hme := hg
      have hb := gd_c ho
      rw [gd_e hb] at ho
      refine us_callSc 2 12 hR dL_hands_359 (y := 13015) (by decide +kernel) (by decide) (J := i13015) rfl rfl rfl rfl (rest := _) (Nat.le_of_ble_eq_true rfl) rfl rfl hb.1 hb.2 ?_
      obtain ⟨r4, hr4⟩ := bP_ex ho
      replace ho := bP_go ho hr4
      refine sh_13015 h2.1 hme hr4 ?_
      refine us_ldc hR dL_hands_362 (v := (-1000001)) (by decide +kernel) ?_
      refine us_icmp_ne hR dL_hands_364 371 (by decide) (fun c5 => ?_) (fun c5 => ?_)
      · rw [if_neg c5] at ho
        refine us_iconstC hR dL_hands_371 (c := 0) (by decide) ?_
        refine us_iret hR dL_hands_372 rfl (nar01 (Or.inl rfl)) ?_
        cases ho
        exact h _ (Or.inl rfl) h2
      · rw [if_pos c5] at ho
        refine us_iconstC hR dL_hands_367 (c := 1) (by decide) ?_
        refine us_goto hR dL_hands_368 372 (by decide) ?_
        refine us_iret hR dL_hands_372 rfl (nar01 (Or.inr rfl)) ?_
        cases ho
        exact h _ (Or.inr rfl) h2
set_option maxHeartbeats 2000000 in
set_option maxRecDepth 8000 in
theorem n13039_J317 {d : Nat} {P : ab_Pq} {X : ab_Xq} {o : Lx × Int32} {R : ab_K} (hR : ab_Cl (d + 916) (ab_Gam (d + 916)) (mCi i13039) i13039 0 (fun _ => 0) P X R) (h : ∀ G1, (o.2 = 0 ∨ o.2 = 1) → LRep G1 o.1 → P G1 (some (.int o.2))) {n159 : Nat} (ih159 : ∀ (l0 : Nat) (l1 : Nat) (l2 : Nat) (l3 : Nat) (l4 : Nat) (l5 : Nat) (l6 : Int32) (l7 : Int32) (l8 : Int32) (l9 : Int32) (l10 : Int32) (l11 : Int32) (w12 : Option Value) (w13 : Option Value) (w14 : Option Value) (w15 : Option Value) (S : Lx) (Ga : ab_G) (bc bs : Nat) (h2 : LRep Ga S) (ho : l_13039_L159 n159 l0 l1 l2 l3 l4 l5 l6 l7 l8 l9 l10 l11 bc bs S = some o), R 159 [some (.ref l0), some (.ref l1), some (.ref l2), some (.ref l3), some (.ref l4), some (.ref l5), some (.int l6), some (.int l7), some (.int l8), some (.int l9), some (.int l10), some (.int l11), w12, w13, w14, w15] [] Ga bc bs) : ∀ (l0 : Nat) (l1 : Nat) (l2 : Nat) (l3 : Nat) (l4 : Nat) (l5 : Nat) (l6 : Int32) (l7 : Int32) (l8 : Int32) (l9 : Int32) (l10 : Int32) (l11 : Int32) (l12 : Int32) (l13 : Int32) (l14 : Int32) (l15 : Int32) (k0 : Int32) (k1 : Int32)  (S : Lx) (Ga : ab_G) (bc bs : Nat) (h2 : LRep Ga S) (ho : l_13039_J317 (l_13039_L159 n159) l0 l1 l2 l3 l4 l5 l6 l7 l8 l9 l10 l11 l12 l13 l14 l15 k0 k1 bc bs S = some o), R 317 [some (.ref l0), some (.ref l1), some (.ref l2), some (.ref l3), some (.ref l4), some (.ref l5), some (.int l6), some (.int l7), some (.int l8), some (.int l9), some (.int l10), some (.int l11), some (.int l12), some (.int l13), some (.int l14), some (.int l15)] [.int k0, .int k1] Ga bc bs := by
  intro l0 l1 l2 l3 l4 l5 l6 l7 l8 l9 l10 l11 l12 l13 l14 l15 k0 k1  S Ga bc bs h2 ho
  unfold l_13039_J317 at ho
  refine us_icmp_ne hR dL_hands_317 324 (by decide) (fun c6 => ?_) (fun c6 => ?_)
  · rw [if_neg c6] at ho
    refine us_iconstC hR dL_hands_324 (c := 0) (by decide) ?_
    refine us_istore hR dL_hands_325 (Nat.le_of_ble_eq_true rfl) ?_
    refine us_iincC hR dL_hands_327 rfl (Nat.le_of_ble_eq_true rfl) (c := 1) (by decide) ?_
    change R _ [some (.ref l0), some (.ref l1), some (.ref l2), some (.ref l3), some (.ref l4), some (.ref l5), some (.int l6), some (.int l7), some (.int l8), some (.int l9), some (.int 0), some (.int (l11 + 1)), some (.int l12), some (.int l13), some (.int l14), some (.int l15)] _ _ _ _
    refine us_goto hR dL_hands_330 159 (by decide) ?_
    exact ih159 l0 l1 l2 l3 l4 l5 l6 l7 l8 l9 0 (l11 + 1) _ _ _ _ S Ga _ _ h2 ho
  · rw [if_pos c6] at ho
    refine us_iconstC hR dL_hands_320 (c := 1) (by decide) ?_
    refine us_goto hR dL_hands_321 325 (by decide) ?_
    refine us_istore hR dL_hands_325 (Nat.le_of_ble_eq_true rfl) ?_
    refine us_iincC hR dL_hands_327 rfl (Nat.le_of_ble_eq_true rfl) (c := 1) (by decide) ?_
    change R _ [some (.ref l0), some (.ref l1), some (.ref l2), some (.ref l3), some (.ref l4), some (.ref l5), some (.int l6), some (.int l7), some (.int l8), some (.int l9), some (.int 1), some (.int (l11 + 1)), some (.int l12), some (.int l13), some (.int l14), some (.int l15)] _ _ _ _
    refine us_goto hR dL_hands_330 159 (by decide) ?_
    exact ih159 l0 l1 l2 l3 l4 l5 l6 l7 l8 l9 1 (l11 + 1) _ _ _ _ S Ga _ _ h2 ho
set_option maxHeartbeats 2000000 in
set_option maxRecDepth 8000 in
theorem n13039_J284 {d : Nat} {P : ab_Pq} {X : ab_Xq} {o : Lx × Int32} {R : ab_K} (hR : ab_Cl (d + 916) (ab_Gam (d + 916)) (mCi i13039) i13039 0 (fun _ => 0) P X R) (h : ∀ G1, (o.2 = 0 ∨ o.2 = 1) → LRep G1 o.1 → P G1 (some (.int o.2))) {n159 : Nat} (ih159 : ∀ (l0 : Nat) (l1 : Nat) (l2 : Nat) (l3 : Nat) (l4 : Nat) (l5 : Nat) (l6 : Int32) (l7 : Int32) (l8 : Int32) (l9 : Int32) (l10 : Int32) (l11 : Int32) (w12 : Option Value) (w13 : Option Value) (w14 : Option Value) (w15 : Option Value) (S : Lx) (Ga : ab_G) (bc bs : Nat) (h2 : LRep Ga S) (ho : l_13039_L159 n159 l0 l1 l2 l3 l4 l5 l6 l7 l8 l9 l10 l11 bc bs S = some o), R 159 [some (.ref l0), some (.ref l1), some (.ref l2), some (.ref l3), some (.ref l4), some (.ref l5), some (.int l6), some (.int l7), some (.int l8), some (.int l9), some (.int l10), some (.int l11), w12, w13, w14, w15] [] Ga bc bs) : ∀ (l0 : Nat) (l1 : Nat) (l2 : Nat) (l3 : Nat) (l4 : Nat) (l5 : Nat) (l6 : Int32) (l7 : Int32) (l8 : Int32) (l9 : Int32) (l10 : Int32) (l11 : Int32) (l12 : Int32) (l13 : Int32) (l14 : Int32) (k0 : Int32) (w15 : Option Value) (S : Lx) (Ga : ab_G) (bc bs : Nat) (h2 : LRep Ga S) (ho : l_13039_J284 (l_13039_L159 n159) l0 l1 l2 l3 l4 l5 l6 l7 l8 l9 l10 l11 l12 l13 l14 k0 bc bs S = some o), R 284 [some (.ref l0), some (.ref l1), some (.ref l2), some (.ref l3), some (.ref l4), some (.ref l5), some (.int l6), some (.int l7), some (.int l8), some (.int l9), some (.int l10), some (.int l11), some (.int l12), some (.int l13), some (.int l14), w15] [.int k0] Ga bc bs := by
  have h13039_J317 := n13039_J317 hR h ih159
  intro l0 l1 l2 l3 l4 l5 l6 l7 l8 l9 l10 l11 l12 l13 l14 k0 w15 S Ga bc bs h2 ho
  unfold l_13039_J284 at ho
  refine us_istore hR dL_hands_284 (Nat.le_of_ble_eq_true rfl) ?_
  refine us_aload_n hR dL_hands_286 rfl ?_
  refine us_iload hR dL_hands_287 rfl ?_
  refine us_iload hR dL_hands_289 rfl ?_
  have hg := gd_c ho
  rw [gd_e hg] at ho
  have hme := hg
  have hb := gd_c ho
  rw [gd_e hb] at ho
  refine us_callSc 2 12 hR dL_hands_291 (y := 13016) (by decide +kernel) (by decide) (J := i13016) rfl rfl rfl rfl (rest := _) (Nat.le_of_ble_eq_true rfl) rfl rfl hb.1 hb.2 ?_
  obtain ⟨r7, hr7⟩ := bP_ex ho
  replace ho := bP_go ho hr7
  refine sh_13016 h2.1 hme hr7 ?_
  refine us_iload hR dL_hands_294 rfl ?_
  refine us_icmp_ne hR dL_hands_296 324 (by decide) (fun c8 => ?_) (fun c8 => ?_)
  · rw [if_neg c8] at ho
    refine us_iconstC hR dL_hands_324 (c := 0) (by decide) ?_
    refine us_istore hR dL_hands_325 (Nat.le_of_ble_eq_true rfl) ?_
    refine us_iincC hR dL_hands_327 rfl (Nat.le_of_ble_eq_true rfl) (c := 1) (by decide) ?_
    change R _ [some (.ref l0), some (.ref l1), some (.ref l2), some (.ref l3), some (.ref l4), some (.ref l5), some (.int l6), some (.int l7), some (.int l8), some (.int l9), some (.int 0), some (.int (l11 + 1)), some (.int l12), some (.int l13), some (.int l14), some (.int k0)] _ _ _ _
    refine us_goto hR dL_hands_330 159 (by decide) ?_
    exact ih159 l0 l1 l2 l3 l4 l5 l6 l7 l8 l9 0 (l11 + 1) _ _ _ _ S Ga _ _ h2 ho
  · rw [if_pos c8] at ho
    refine us_aload_n hR dL_hands_299 rfl ?_
    refine us_iload hR dL_hands_300 rfl ?_
    refine us_iload hR dL_hands_302 rfl ?_
    have hg := gd_c ho
    rw [gd_e hg] at ho
    have hme := hg
    have hb := gd_c ho
    rw [gd_e hb] at ho
    refine us_callSc 2 12 hR dL_hands_304 (y := 13015) (by decide +kernel) (by decide) (J := i13015) rfl rfl rfl rfl (rest := _) (Nat.le_of_ble_eq_true rfl) rfl rfl hb.1 hb.2 ?_
    obtain ⟨r9, hr9⟩ := bP_ex ho
    replace ho := bP_go ho hr9
    refine sh_13015 h2.1 hme hr9 ?_
    refine us_iload hR dL_hands_307 rfl ?_
    refine us_if_eq hR dL_hands_309 316 (by decide) (fun c10 => ?_) (fun c10 => ?_)
    · rw [if_pos c10] at ho
      refine us_iconstC hR dL_hands_316 (c := 0) (by decide) ?_
      exact h13039_J317 l0 l1 l2 l3 l4 l5 l6 l7 l8 l9 l10 l11 l12 l13 l14 k0 0 r9  S Ga _ _ h2 ho
    · rw [if_neg c10] at ho
      refine us_iconstC hR dL_hands_312 (c := 1) (by decide) ?_
      refine us_goto hR dL_hands_313 317 (by decide) ?_
      exact h13039_J317 l0 l1 l2 l3 l4 l5 l6 l7 l8 l9 l10 l11 l12 l13 l14 k0 1 r9  S Ga _ _ h2 ho
set_option maxHeartbeats 2000000 in
set_option maxRecDepth 8000 in
theorem n13039_J283 {d : Nat} {P : ab_Pq} {X : ab_Xq} {o : Lx × Int32} {R : ab_K} (hR : ab_Cl (d + 916) (ab_Gam (d + 916)) (mCi i13039) i13039 0 (fun _ => 0) P X R) (h : ∀ G1, (o.2 = 0 ∨ o.2 = 1) → LRep G1 o.1 → P G1 (some (.int o.2))) {n159 : Nat} (ih159 : ∀ (l0 : Nat) (l1 : Nat) (l2 : Nat) (l3 : Nat) (l4 : Nat) (l5 : Nat) (l6 : Int32) (l7 : Int32) (l8 : Int32) (l9 : Int32) (l10 : Int32) (l11 : Int32) (w12 : Option Value) (w13 : Option Value) (w14 : Option Value) (w15 : Option Value) (S : Lx) (Ga : ab_G) (bc bs : Nat) (h2 : LRep Ga S) (ho : l_13039_L159 n159 l0 l1 l2 l3 l4 l5 l6 l7 l8 l9 l10 l11 bc bs S = some o), R 159 [some (.ref l0), some (.ref l1), some (.ref l2), some (.ref l3), some (.ref l4), some (.ref l5), some (.int l6), some (.int l7), some (.int l8), some (.int l9), some (.int l10), some (.int l11), w12, w13, w14, w15] [] Ga bc bs) : ∀ (l0 : Nat) (l1 : Nat) (l2 : Nat) (l3 : Nat) (l4 : Nat) (l5 : Nat) (l6 : Int32) (l7 : Int32) (l8 : Int32) (l9 : Int32) (l10 : Int32) (l11 : Int32) (l12 : Int32) (l13 : Int32) (l14 : Int32) (w15 : Option Value) (S : Lx) (Ga : ab_G) (bc bs : Nat) (h2 : LRep Ga S) (ho : l_13039_J283 (l_13039_L159 n159) l0 l1 l2 l3 l4 l5 l6 l7 l8 l9 l10 l11 l12 l13 l14 bc bs S = some o), R 283 [some (.ref l0), some (.ref l1), some (.ref l2), some (.ref l3), some (.ref l4), some (.ref l5), some (.int l6), some (.int l7), some (.int l8), some (.int l9), some (.int l10), some (.int l11), some (.int l12), some (.int l13), some (.int l14), w15] [] Ga bc bs := by
  have h13039_J284 := n13039_J284 hR h ih159
  intro l0 l1 l2 l3 l4 l5 l6 l7 l8 l9 l10 l11 l12 l13 l14 w15 S Ga bc bs h2 ho
  unfold l_13039_J283 at ho
  refine us_iconstC hR dL_hands_283 (c := 0) (by decide) ?_
  exact h13039_J284 l0 l1 l2 l3 l4 l5 l6 l7 l8 l9 l10 l11 l12 l13 l14 0 _ S Ga _ _ h2 ho
set_option maxHeartbeats 2000000 in
set_option maxRecDepth 8000 in
theorem n13039_J279 {d : Nat} {P : ab_Pq} {X : ab_Xq} {o : Lx × Int32} {R : ab_K} (hR : ab_Cl (d + 916) (ab_Gam (d + 916)) (mCi i13039) i13039 0 (fun _ => 0) P X R) (h : ∀ G1, (o.2 = 0 ∨ o.2 = 1) → LRep G1 o.1 → P G1 (some (.int o.2))) {n159 : Nat} (ih159 : ∀ (l0 : Nat) (l1 : Nat) (l2 : Nat) (l3 : Nat) (l4 : Nat) (l5 : Nat) (l6 : Int32) (l7 : Int32) (l8 : Int32) (l9 : Int32) (l10 : Int32) (l11 : Int32) (w12 : Option Value) (w13 : Option Value) (w14 : Option Value) (w15 : Option Value) (S : Lx) (Ga : ab_G) (bc bs : Nat) (h2 : LRep Ga S) (ho : l_13039_L159 n159 l0 l1 l2 l3 l4 l5 l6 l7 l8 l9 l10 l11 bc bs S = some o), R 159 [some (.ref l0), some (.ref l1), some (.ref l2), some (.ref l3), some (.ref l4), some (.ref l5), some (.int l6), some (.int l7), some (.int l8), some (.int l9), some (.int l10), some (.int l11), w12, w13, w14, w15] [] Ga bc bs) : ∀ (l0 : Nat) (l1 : Nat) (l2 : Nat) (l3 : Nat) (l4 : Nat) (l5 : Nat) (l6 : Int32) (l7 : Int32) (l8 : Int32) (l9 : Int32) (l10 : Int32) (l11 : Int32) (l12 : Int32) (l13 : Int32) (l14 : Int32) (w15 : Option Value) (S : Lx) (Ga : ab_G) (bc bs : Nat) (h2 : LRep Ga S) (ho : l_13039_J279 (l_13039_L159 n159) l0 l1 l2 l3 l4 l5 l6 l7 l8 l9 l10 l11 l12 l13 l14 bc bs S = some o), R 279 [some (.ref l0), some (.ref l1), some (.ref l2), some (.ref l3), some (.ref l4), some (.ref l5), some (.int l6), some (.int l7), some (.int l8), some (.int l9), some (.int l10), some (.int l11), some (.int l12), some (.int l13), some (.int l14), w15] [] Ga bc bs := by
  have h13039_J284 := n13039_J284 hR h ih159
  intro l0 l1 l2 l3 l4 l5 l6 l7 l8 l9 l10 l11 l12 l13 l14 w15 S Ga bc bs h2 ho
  unfold l_13039_J279 at ho
  refine us_iconstC hR dL_hands_279 (c := 1) (by decide) ?_
  refine us_goto hR dL_hands_280 284 (by decide) ?_
  exact h13039_J284 l0 l1 l2 l3 l4 l5 l6 l7 l8 l9 l10 l11 l12 l13 l14 1 _ S Ga _ _ h2 ho
set_option maxHeartbeats 2000000 in
set_option maxRecDepth 8000 in
theorem n13039_J258 {d : Nat} {P : ab_Pq} {X : ab_Xq} {o : Lx × Int32} {R : ab_K} (hR : ab_Cl (d + 916) (ab_Gam (d + 916)) (mCi i13039) i13039 0 (fun _ => 0) P X R) (h : ∀ G1, (o.2 = 0 ∨ o.2 = 1) → LRep G1 o.1 → P G1 (some (.int o.2))) {n159 : Nat} (ih159 : ∀ (l0 : Nat) (l1 : Nat) (l2 : Nat) (l3 : Nat) (l4 : Nat) (l5 : Nat) (l6 : Int32) (l7 : Int32) (l8 : Int32) (l9 : Int32) (l10 : Int32) (l11 : Int32) (w12 : Option Value) (w13 : Option Value) (w14 : Option Value) (w15 : Option Value) (S : Lx) (Ga : ab_G) (bc bs : Nat) (h2 : LRep Ga S) (ho : l_13039_L159 n159 l0 l1 l2 l3 l4 l5 l6 l7 l8 l9 l10 l11 bc bs S = some o), R 159 [some (.ref l0), some (.ref l1), some (.ref l2), some (.ref l3), some (.ref l4), some (.ref l5), some (.int l6), some (.int l7), some (.int l8), some (.int l9), some (.int l10), some (.int l11), w12, w13, w14, w15] [] Ga bc bs) : ∀ (l0 : Nat) (l1 : Nat) (l2 : Nat) (l3 : Nat) (l4 : Nat) (l5 : Nat) (l6 : Int32) (l7 : Int32) (l8 : Int32) (l9 : Int32) (l10 : Int32) (l11 : Int32) (l12 : Int32) (l13 : Int32) (l14 : Int32) (w15 : Option Value) (S : Lx) (Ga : ab_G) (bc bs : Nat) (h2 : LRep Ga S) (ho : l_13039_J258 (l_13039_L159 n159) l0 l1 l2 l3 l4 l5 l6 l7 l8 l9 l10 l11 l12 l13 l14 bc bs S = some o), R 258 [some (.ref l0), some (.ref l1), some (.ref l2), some (.ref l3), some (.ref l4), some (.ref l5), some (.int l6), some (.int l7), some (.int l8), some (.int l9), some (.int l10), some (.int l11), some (.int l12), some (.int l13), some (.int l14), w15] [] Ga bc bs := by
  have h13039_J283 := n13039_J283 hR h ih159
  have h13039_J279 := n13039_J279 hR h ih159
  intro l0 l1 l2 l3 l4 l5 l6 l7 l8 l9 l10 l11 l12 l13 l14 w15 S Ga bc bs h2 ho
  unfold l_13039_J258 at ho
  refine us_iload hR dL_hands_258 rfl ?_
  refine us_iconstC hR dL_hands_260 (c := 2) (by decide) ?_
  refine us_icmp_lt hR dL_hands_261 279 (by decide) (fun c11 => ?_) (fun c11 => ?_)
  · rw [if_pos c11] at ho
    exact h13039_J279 l0 l1 l2 l3 l4 l5 l6 l7 l8 l9 l10 l11 l12 l13 l14 _ S Ga _ _ h2 ho
  · rw [if_neg c11] at ho
    refine us_aload_n hR dL_hands_264 rfl ?_
    refine us_iconstC hR dL_hands_265 (c := 1) (by decide) ?_
    have hg := gd_c ho
    rw [gd_e hg] at ho
    have hme := hg
    have hb := gd_c ho
    rw [gd_e hb] at ho
    refine us_callSc 1 6 hR dL_hands_266 (y := 13008) (by decide +kernel) (by decide) (J := i13008) rfl rfl rfl rfl (rest := _) (Nat.le_of_ble_eq_true rfl) rfl rfl hb.1 hb.2 ?_
    obtain ⟨r12, hr12⟩ := bP_ex ho
    replace ho := bP_go ho hr12
    refine sh_13008 h2.1 hme hr12 ?_
    refine us_aload_n hR dL_hands_269 rfl ?_
    refine us_iload hR dL_hands_270 rfl ?_
    have hg := gd_c ho
    rw [gd_e hg] at ho
    refine ul_iaload h2 hg hR dL_hands_272 ?_
    refine us_bipushC hR dL_hands_273 (c := 64) (by decide) ?_
    have hg := gd_c ho
    rw [gd_e hg] at ho
    refine us_idiv hR dL_hands_275 hg ?_
    refine us_icmp_ne hR dL_hands_276 283 (by decide) (fun c13 => ?_) (fun c13 => ?_)
    · rw [if_neg c13] at ho
      exact h13039_J283 l0 l1 l2 l3 l4 l5 l6 l7 l8 l9 l10 l11 l12 l13 l14 _ S Ga _ _ h2 ho
    · rw [if_pos c13] at ho
      exact h13039_J279 l0 l1 l2 l3 l4 l5 l6 l7 l8 l9 l10 l11 l12 l13 l14 _ S Ga _ _ h2 ho
set_option maxHeartbeats 2000000 in
set_option maxRecDepth 8000 in
theorem n13039_L159 {d : Nat} {P : ab_Pq} {X : ab_Xq} {o : Lx × Int32} {R : ab_K} (hR : ab_Cl (d + 916) (ab_Gam (d + 916)) (mCi i13039) i13039 0 (fun _ => 0) P X R) (h : ∀ G1, (o.2 = 0 ∨ o.2 = 1) → LRep G1 o.1 → P G1 (some (.int o.2))) : ∀ (n : Nat) (l0 : Nat) (l1 : Nat) (l2 : Nat) (l3 : Nat) (l4 : Nat) (l5 : Nat) (l6 : Int32) (l7 : Int32) (l8 : Int32) (l9 : Int32) (l10 : Int32) (l11 : Int32) (w12 : Option Value) (w13 : Option Value) (w14 : Option Value) (w15 : Option Value) (S : Lx) (Ga : ab_G) (bc bs : Nat) (h2 : LRep Ga S) (ho : l_13039_L159 n l0 l1 l2 l3 l4 l5 l6 l7 l8 l9 l10 l11 bc bs S = some o), R 159 [some (.ref l0), some (.ref l1), some (.ref l2), some (.ref l3), some (.ref l4), some (.ref l5), some (.int l6), some (.int l7), some (.int l8), some (.int l9), some (.int l10), some (.int l11), w12, w13, w14, w15] [] Ga bc bs := by
  have h13039_J333 := n13039_J333 hR h 
  intro n
  induction n with
  | zero => intro l0 l1 l2 l3 l4 l5 l6 l7 l8 l9 l10 l11 w12 w13 w14 w15 S Ga bc bs h2 ho; exact absurd ho (by rw [l_13039_L159]; intro hc; cases hc)
  | succ n159 ih159 =>
    have h13039_J283 := n13039_J283 hR h ih159
    have h13039_J258 := n13039_J258 hR h ih159
    intro l0 l1 l2 l3 l4 l5 l6 l7 l8 l9 l10 l11 w12 w13 w14 w15 S Ga bc bs h2 ho
    rw [l_13039_L159] at ho
    refine us_iload hR dL_hands_159 rfl ?_
    refine us_aload_n hR dL_hands_161 rfl ?_
    refine us_iconstC hR dL_hands_162 (c := 4) (by decide) ?_
    refine us_iload hR dL_hands_163 rfl ?_
    refine us_iadd hR dL_hands_165 ?_
    have hg := gd_c ho
    rw [gd_e hg] at ho
    refine ul_iaload h2 hg hR dL_hands_166 ?_
    refine us_icmp_ge hR dL_hands_167 333 (by decide) (fun c14 => ?_) (fun c14 => ?_)
    · rw [if_pos c14] at ho
      exact h13039_J333 l0 l1 l2 l3 l4 l5 l6 l7 l8 l9 l10 l11 _ _ _ _ S Ga _ _ h2 ho
    · rw [if_neg c14] at ho
      refine us_iload hR dL_hands_170 rfl ?_
      refine us_if_eq hR dL_hands_172 333 (by decide) (fun c15 => ?_) (fun c15 => ?_)
      · rw [if_pos c15] at ho
        exact h13039_J333 l0 l1 l2 l3 l4 l5 l6 l7 l8 l9 l10 l11 _ _ _ _ S Ga _ _ h2 ho
      · rw [if_neg c15] at ho
        refine us_bipushC hR dL_hands_175 (c := 8) (by decide) ?_
        refine us_iload hR dL_hands_177 rfl ?_
        refine us_imul hR dL_hands_179 ?_
        refine us_iload hR dL_hands_180 rfl ?_
        refine us_iadd hR dL_hands_182 ?_
        refine us_istore hR dL_hands_183 (Nat.le_of_ble_eq_true rfl) ?_
        refine us_aload_n hR dL_hands_185 rfl ?_
        refine us_aload_n hR dL_hands_186 rfl ?_
        refine us_iload hR dL_hands_187 rfl ?_
        have hg := gd_c ho
        rw [gd_e hg] at ho
        refine ul_iaload h2 hg hR dL_hands_189 ?_
        refine us_sipushC hR dL_hands_190 (c := 4096) (by decide) ?_
        have hg := gd_c ho
        rw [gd_e hg] at ho
        refine us_irem hR dL_hands_193 hg ?_
        refine us_aload_n hR dL_hands_194 rfl ?_
        refine us_iconstC hR dL_hands_195 (c := 2) (by decide) ?_
        refine us_iload hR dL_hands_196 rfl ?_
        refine us_imul hR dL_hands_198 ?_
        have hg := gd_c ho
        rw [gd_e hg] at ho
        refine ul_iaload h2 hg hR dL_hands_199 ?_
        refine us_aload_n hR dL_hands_200 rfl ?_
        refine us_iconstC hR dL_hands_201 (c := 2) (by decide) ?_
        refine us_iload hR dL_hands_202 rfl ?_
        refine us_imul hR dL_hands_204 ?_
        refine us_iconstC hR dL_hands_205 (c := 1) (by decide) ?_
        refine us_iadd hR dL_hands_206 ?_
        have hg := gd_c ho
        rw [gd_e hg] at ho
        refine ul_iaload h2 hg hR dL_hands_207 ?_
        have hg := gd_c ho
        rw [gd_e hg] at ho
        have hme := hg
        have hb := gd_c ho
        rw [gd_e hb] at ho
        refine us_callSc 42 3712 hR dL_hands_208 (y := 13006) (by decide +kernel) (by decide) (J := i13006) rfl rfl rfl rfl (rest := _) (Nat.le_of_ble_eq_true rfl) rfl rfl hb.1 hb.2 ?_
        obtain ⟨q16, hs16⟩ := bO_ex ho
        obtain ⟨T16, r16⟩ := q16
        replace ho := bO_go ho hs16
        refine sh_13006 h2.1 hme hs16 (fun G16 h316 hF16 => ?_)
        have h216 := h2.cls h316 hF16
        obtain ⟨S16, hS16⟩ : ∃ Sz, Sz = lT S T16 := ⟨_, rfl⟩
        rw [bS_eq, ← hS16] at ho
        rw [← hS16] at h216
        refine us_istore hR dL_hands_211 (Nat.le_of_ble_eq_true rfl) ?_
        change R _ [some (.ref l0), some (.ref l1), some (.ref l2), some (.ref l3), some (.ref l4), some (.ref l5), some (.int l6), some (.int l7), some (.int l8), some (.int l9), some (.int l10), some (.int l11), some (.int ((8 * l8) + l11)), some (.int r16), _, _] _ _ _ _
        refine us_aload_n hR dL_hands_213 rfl ?_
        refine us_iload hR dL_hands_214 rfl ?_
        have hg := gd_c ho
        rw [gd_e hg] at ho
        refine ul_iaload h216 hg hR dL_hands_216 ?_
        refine us_iconstC hR dL_hands_217 (c := 4) (by decide) ?_
        have hg := gd_c ho
        rw [gd_e hg] at ho
        refine us_irem hR dL_hands_218 hg ?_
        refine us_istore hR dL_hands_219 (Nat.le_of_ble_eq_true rfl) ?_
        refine us_iload hR dL_hands_221 rfl ?_
        refine us_if_ne hR dL_hands_223 283 (by decide) (fun c17 => ?_) (fun c17 => ?_)
        · rw [if_neg c17] at ho
          exact h13039_J283 l0 l1 l2 l3 l4 l5 l6 l7 l8 l9 l10 l11 ((8 * l8) + l11) r16 ((xg (S16.2 l2) ((8 * l8) + l11)) % 4) _ S16 G16 _ _ h216 ho
        · rw [if_pos c17] at ho
          refine us_aload_n hR dL_hands_226 rfl ?_
          have hg := gd_c ho
          rw [gd_e hg] at ho
          refine us_callV0 hR dL_hands_227 (y := 11011) (by decide +kernel) (by decide) (J := i11011) rfl rfl rfl rfl (H_kind1 h216.1 hg (by decide)) rfl (Nat.le_of_ble_eq_true rfl) rfl rfl ?_
          obtain ⟨r18, hr18⟩ := bP_ex ho
          replace ho := bP_go ho hr18
          refine sh_11011 h216.1 hr18 ?_
          refine us_iload hR dL_hands_230 rfl ?_
          refine us_icmp_ne hR dL_hands_232 283 (by decide) (fun c19 => ?_) (fun c19 => ?_)
          · rw [if_neg c19] at ho
            exact h13039_J283 l0 l1 l2 l3 l4 l5 l6 l7 l8 l9 l10 l11 ((8 * l8) + l11) r16 ((xg (S16.2 l2) ((8 * l8) + l11)) % 4) _ S16 G16 _ _ h216 ho
          · rw [if_pos c19] at ho
            refine us_iload hR dL_hands_235 rfl ?_
            refine us_iconstC hR dL_hands_237 (c := 1) (by decide) ?_
            refine us_icmp_lt hR dL_hands_238 258 (by decide) (fun c20 => ?_) (fun c20 => ?_)
            · rw [if_pos c20] at ho
              exact h13039_J258 l0 l1 l2 l3 l4 l5 l6 l7 l8 l9 l10 l11 ((8 * l8) + l11) r16 ((xg (S16.2 l2) ((8 * l8) + l11)) % 4) _ S16 G16 _ _ h216 ho
            · rw [if_neg c20] at ho
              refine us_aload_n hR dL_hands_241 rfl ?_
              refine us_iconstC hR dL_hands_242 (c := 0) (by decide) ?_
              have hg := gd_c ho
              rw [gd_e hg] at ho
              have hme := hg
              have hb := gd_c ho
              rw [gd_e hb] at ho
              refine us_callSc 1 6 hR dL_hands_243 (y := 13008) (by decide +kernel) (by decide) (J := i13008) rfl rfl rfl rfl (rest := _) (Nat.le_of_ble_eq_true rfl) rfl rfl hb.1 hb.2 ?_
              obtain ⟨r21, hr21⟩ := bP_ex ho
              replace ho := bP_go ho hr21
              refine sh_13008 h216.1 hme hr21 ?_
              refine us_aload_n hR dL_hands_246 rfl ?_
              refine us_iload hR dL_hands_247 rfl ?_
              have hg := gd_c ho
              rw [gd_e hg] at ho
              refine ul_iaload h216 hg hR dL_hands_249 ?_
              refine us_iconstC hR dL_hands_250 (c := 4) (by decide) ?_
              have hg := gd_c ho
              rw [gd_e hg] at ho
              refine us_idiv hR dL_hands_251 hg ?_
              refine us_bipushC hR dL_hands_252 (c := 16) (by decide) ?_
              have hg := gd_c ho
              rw [gd_e hg] at ho
              refine us_irem hR dL_hands_254 hg ?_
              refine us_icmp_ne hR dL_hands_255 283 (by decide) (fun c22 => ?_) (fun c22 => ?_)
              · rw [if_neg c22] at ho
                exact h13039_J283 l0 l1 l2 l3 l4 l5 l6 l7 l8 l9 l10 l11 ((8 * l8) + l11) r16 ((xg (S16.2 l2) ((8 * l8) + l11)) % 4) _ S16 G16 _ _ h216 ho
              · rw [if_pos c22] at ho
                exact h13039_J258 l0 l1 l2 l3 l4 l5 l6 l7 l8 l9 l10 l11 ((8 * l8) + l11) r16 ((xg (S16.2 l2) ((8 * l8) + l11)) % 4) _ S16 G16 _ _ h216 ho
set_option maxHeartbeats 2000000 in
set_option maxRecDepth 8000 in
theorem sl_13039 {d : Nat} {G : ab_G} {S : Lx} {P : ab_Pq} {X : ab_Xq} (h2 : LRep G S) {x0 : Nat} {x1 : Nat} {x2 : Nat} {x3 : Nat} {x4 : Nat} {x5 : Nat} {x6 : Int32} {o : Lx × Int32} (ho : l_13039 x0 x1 x2 x3 x4 x5 x6 S = some o) (h : ∀ G1, (o.2 = 0 ∨ o.2 = 1) → LRep G1 o.1 → P G1 (some (.int o.2))) : ab_Gam (d + 917) 13039 [.ref x0, .ref x1, .ref x2, .ref x3, .ref x4, .ref x5, .int x6] G P X := by
  unfold l_13039 at ho
  refine ab_enter (I := i13039) rfl (Nat.le_of_ble_eq_true rfl) (fun R hR => ?_)
  have h13039_L159 := n13039_L159 hR h 
  change R _ [some (.ref x0), some (.ref x1), some (.ref x2), some (.ref x3), some (.ref x4), some (.ref x5), some (.int x6), none, none, none, none, none, none, none, none, none] _ _ 700 48500
  refine us_iload hR dL_hands_0 rfl ?_
  refine us_bipushC hR dL_hands_2 (c := 6) (by decide) ?_
  refine us_callS0 hR dL_hands_4 (y := 13001) (by decide +kernel) (by decide) (J := i13001) rfl rfl rfl rfl (rest := _) (Nat.le_of_ble_eq_true rfl) rfl rfl ?_
  obtain ⟨r23, hr23⟩ := bP_ex ho
  replace ho := bP_go ho hr23
  refine sh_13001 h2.1 hr23 ?_
  refine us_istore hR dL_hands_7 (Nat.le_of_ble_eq_true rfl) ?_
  refine us_iload hR dL_hands_9 rfl ?_
  refine us_iconstC hR dL_hands_11 (c := 3) (by decide) ?_
  refine us_ishr hR dL_hands_12 ?_
  refine us_aload hR dL_hands_13 rfl ?_
  refine us_iconstC hR dL_hands_15 (c := 0) (by decide) ?_
  have hg := gd_c ho
  rw [gd_e hg] at ho
  refine ul_iaload h2 hg hR dL_hands_16 ?_
  refine us_callS0 hR dL_hands_17 (y := 13001) (by decide +kernel) (by decide) (J := i13001) rfl rfl rfl rfl (rest := _) (Nat.le_of_ble_eq_true rfl) rfl rfl ?_
  obtain ⟨r24, hr24⟩ := bP_ex ho
  replace ho := bP_go ho hr24
  refine sh_13001 h2.1 hr24 ?_
  refine us_istore hR dL_hands_20 (Nat.le_of_ble_eq_true rfl) ?_
  change R _ [some (.ref x0), some (.ref x1), some (.ref x2), some (.ref x3), some (.ref x4), some (.ref x5), some (.int x6), some (.int r23), some (.int r24), none, none, none, none, none, none, none] _ _ 700 48500
  refine us_aload_n hR dL_hands_22 rfl ?_
  refine us_iload hR dL_hands_23 rfl ?_
  refine us_iload hR dL_hands_25 rfl ?_
  have hg := gd_c ho
  rw [gd_e hg] at ho
  have hme := hg
  refine us_callSc 130 9200 hR dL_hands_27 (y := 13014) (by decide +kernel) (by decide) (J := i13014) rfl rfl rfl rfl (rest := _) (Nat.le_of_ble_eq_true rfl) rfl rfl (Nat.le_of_ble_eq_true rfl) (Nat.le_of_ble_eq_true rfl) ?_
  obtain ⟨q25, hs25⟩ := bO_ex ho
  obtain ⟨T25, r25⟩ := q25
  replace ho := bO_go ho hs25
  refine sh_13014 h2.1 hme hs25 (fun G25 h325 hF25 => ?_)
  have h225 := h2.cls h325 hF25
  obtain ⟨S25, hS25⟩ : ∃ Sz, Sz = lT S T25 := ⟨_, rfl⟩
  rw [bS_eq, ← hS25] at ho
  rw [← hS25] at h225
  change R _ [some (.ref x0), some (.ref x1), some (.ref x2), some (.ref x3), some (.ref x4), some (.ref x5), some (.int x6), some (.int r23), some (.int r24), none, none, none, none, none, none, none] _ _ 570 39300
  refine us_istore hR dL_hands_30 (Nat.le_of_ble_eq_true rfl) ?_
  refine us_aload hR dL_hands_32 rfl ?_
  refine us_iconstC hR dL_hands_34 (c := 1) (by decide) ?_
  have hg := gd_c ho
  rw [gd_e hg] at ho
  refine ul_iaload h225 hg hR dL_hands_35 ?_
  refine us_bipushC hR dL_hands_36 (c := 30) (by decide) ?_
  refine us_icmp_ne hR dL_hands_38 54 (by decide) (fun c26 => ?_) (fun c26 => ?_)
  · rw [if_neg c26] at ho
    change R _ [some (.ref x0), some (.ref x1), some (.ref x2), some (.ref x3), some (.ref x4), some (.ref x5), some (.int x6), some (.int r23), some (.int r24), some (.int r25), none, none, none, none, none, none] _ _ 570 39300
    refine us_aload hR dL_hands_54 rfl ?_
    refine us_aload hR dL_hands_56 rfl ?_
    refine us_iconstC hR dL_hands_58 (c := 1) (by decide) ?_
    have hg := gd_c ho
    rw [gd_e hg] at ho
    refine ul_iaload h225 hg hR dL_hands_59 ?_
    refine us_iload hR dL_hands_60 rfl ?_
    refine us_bipushC hR dL_hands_62 (c := 8) (by decide) ?_
    refine us_iload hR dL_hands_64 rfl ?_
    refine us_imul hR dL_hands_66 ?_
    refine us_iadd hR dL_hands_67 ?_
    refine us_bipushC hR dL_hands_68 (c := 32) (by decide) ?_
    refine us_aload hR dL_hands_70 rfl ?_
    refine us_iconstC hR dL_hands_72 (c := 2) (by decide) ?_
    have hg := gd_c ho
    rw [gd_e hg] at ho
    refine ul_iaload h225 hg hR dL_hands_73 ?_
    refine us_imul hR dL_hands_74 ?_
    refine us_iadd hR dL_hands_75 ?_
    have hg := gd_c ho
    rw [gd_e hg] at ho
    refine ul_iastore h225 hg hR dL_hands_76 (fun G27 S27 hs27 h227 => ?_)
    rw [← hs27, bS_eq] at ho
    refine us_aload hR dL_hands_77 rfl ?_
    refine us_iconstC hR dL_hands_79 (c := 1) (by decide) ?_
    refine us_dup2 hR dL_hands_80 rfl rfl ?_
    have hg := gd_c ho
    rw [gd_e hg] at ho
    refine ul_iaload h227 hg hR dL_hands_81 ?_
    refine us_iconstC hR dL_hands_82 (c := 1) (by decide) ?_
    refine us_iadd hR dL_hands_83 ?_
    have hg := gd_c ho
    rw [gd_e hg] at ho
    refine ul_iastore h227 hg hR dL_hands_84 (fun G28 S28 hs28 h228 => ?_)
    rw [← hs28, bS_eq] at ho
    refine us_iload hR dL_hands_85 rfl ?_
    refine us_aload hR dL_hands_87 rfl ?_
    refine us_iconstC hR dL_hands_89 (c := 1) (by decide) ?_
    have hg := gd_c ho
    rw [gd_e hg] at ho
    refine ul_iaload h228 hg hR dL_hands_90 ?_
    refine us_iconstC hR dL_hands_91 (c := 1) (by decide) ?_
    refine us_isub hR dL_hands_92 ?_
    refine us_icmp_ne hR dL_hands_93 153 (by decide) (fun c29 => ?_) (fun c29 => ?_)
    · rw [if_neg c29] at ho
      change R _ [some (.ref x0), some (.ref x1), some (.ref x2), some (.ref x3), some (.ref x4), some (.ref x5), some (.int x6), some (.int r23), some (.int r24), some (.int r25), none, none, none, none, none, none] _ _ 570 39300
      refine us_iconstC hR dL_hands_153 (c := 0) (by decide) ?_
      refine us_istore hR dL_hands_154 (Nat.le_of_ble_eq_true rfl) ?_
      refine us_iconstC hR dL_hands_156 (c := 0) (by decide) ?_
      refine us_istore hR dL_hands_157 (Nat.le_of_ble_eq_true rfl) ?_
      exact h13039_L159 _ x0 x1 x2 x3 x4 x5 x6 r23 r24 r25 0 0 _ _ _ _ S28 G28 _ _ h228 ho
    · rw [if_pos c29] at ho
      change R _ [some (.ref x0), some (.ref x1), some (.ref x2), some (.ref x3), some (.ref x4), some (.ref x5), some (.int x6), some (.int r23), some (.int r24), some (.int r25), none, none, none, none, none, none] _ _ 570 39300
      refine us_aload_n hR dL_hands_96 rfl ?_
      refine us_iload hR dL_hands_97 rfl ?_
      have hg := gd_c ho
      rw [gd_e hg] at ho
      have hme := hg
      refine us_callSc 1 6 hR dL_hands_99 (y := 13022) (by decide +kernel) (by decide) (J := i13022) rfl rfl rfl rfl (rest := _) (Nat.le_of_ble_eq_true rfl) rfl rfl (Nat.le_of_ble_eq_true rfl) (Nat.le_of_ble_eq_true rfl) ?_
      obtain ⟨r30, hr30⟩ := bP_ex ho
      replace ho := bP_go ho hr30
      refine sh_13022 h228.1 hme hr30 ?_
      change R _ [some (.ref x0), some (.ref x1), some (.ref x2), some (.ref x3), some (.ref x4), some (.ref x5), some (.int x6), some (.int r23), some (.int r24), some (.int r25), none, none, none, none, none, none] _ _ 569 39294
      refine us_aload hR dL_hands_102 rfl ?_
      refine us_iconstC hR dL_hands_104 (c := 3) (by decide) ?_
      have hg := gd_c ho
      rw [gd_e hg] at ho
      refine ul_iaload h228 hg hR dL_hands_105 ?_
      refine us_icmp_ne hR dL_hands_106 153 (by decide) (fun c31 => ?_) (fun c31 => ?_)
      · rw [if_neg c31] at ho
        change R _ [some (.ref x0), some (.ref x1), some (.ref x2), some (.ref x3), some (.ref x4), some (.ref x5), some (.int x6), some (.int r23), some (.int r24), some (.int r25), none, none, none, none, none, none] _ _ 569 39294
        refine us_iconstC hR dL_hands_153 (c := 0) (by decide) ?_
        refine us_istore hR dL_hands_154 (Nat.le_of_ble_eq_true rfl) ?_
        refine us_iconstC hR dL_hands_156 (c := 0) (by decide) ?_
        refine us_istore hR dL_hands_157 (Nat.le_of_ble_eq_true rfl) ?_
        exact h13039_L159 _ x0 x1 x2 x3 x4 x5 x6 r23 r24 r25 0 0 _ _ _ _ S28 G28 _ _ h228 ho
      · rw [if_pos c31] at ho
        change R _ [some (.ref x0), some (.ref x1), some (.ref x2), some (.ref x3), some (.ref x4), some (.ref x5), some (.int x6), some (.int r23), some (.int r24), some (.int r25), none, none, none, none, none, none] _ _ 569 39294
        refine us_aload_n hR dL_hands_109 rfl ?_
        refine us_iload hR dL_hands_110 rfl ?_
        refine us_iload hR dL_hands_112 rfl ?_
        have hg := gd_c ho
        rw [gd_e hg] at ho
        have hme := hg
        refine us_callSc 3 18 hR dL_hands_114 (y := 13023) (by decide +kernel) (by decide) (J := i13023) rfl rfl rfl rfl (rest := _) (Nat.le_of_ble_eq_true rfl) rfl rfl (Nat.le_of_ble_eq_true rfl) (Nat.le_of_ble_eq_true rfl) ?_
        obtain ⟨r32, hr32⟩ := bP_ex ho
        replace ho := bP_go ho hr32
        refine sh_13023 h228.1 hme hr32 ?_
        change R _ [some (.ref x0), some (.ref x1), some (.ref x2), some (.ref x3), some (.ref x4), some (.ref x5), some (.int x6), some (.int r23), some (.int r24), some (.int r25), none, none, none, none, none, none] _ _ 566 39276
        refine us_aload hR dL_hands_117 rfl ?_
        refine us_iconstC hR dL_hands_119 (c := 3) (by decide) ?_
        have hg := gd_c ho
        rw [gd_e hg] at ho
        refine ul_iaload h228 hg hR dL_hands_120 ?_
        refine us_icmp_ne hR dL_hands_121 153 (by decide) (fun c33 => ?_) (fun c33 => ?_)
        · rw [if_neg c33] at ho
          change R _ [some (.ref x0), some (.ref x1), some (.ref x2), some (.ref x3), some (.ref x4), some (.ref x5), some (.int x6), some (.int r23), some (.int r24), some (.int r25), none, none, none, none, none, none] _ _ 566 39276
          refine us_iconstC hR dL_hands_153 (c := 0) (by decide) ?_
          refine us_istore hR dL_hands_154 (Nat.le_of_ble_eq_true rfl) ?_
          refine us_iconstC hR dL_hands_156 (c := 0) (by decide) ?_
          refine us_istore hR dL_hands_157 (Nat.le_of_ble_eq_true rfl) ?_
          exact h13039_L159 _ x0 x1 x2 x3 x4 x5 x6 r23 r24 r25 0 0 _ _ _ _ S28 G28 _ _ h228 ho
        · rw [if_pos c33] at ho
          change R _ [some (.ref x0), some (.ref x1), some (.ref x2), some (.ref x3), some (.ref x4), some (.ref x5), some (.int x6), some (.int r23), some (.int r24), some (.int r25), none, none, none, none, none, none] _ _ 566 39276
          refine us_aload_n hR dL_hands_124 rfl ?_
          refine us_iload hR dL_hands_125 rfl ?_
          refine us_iload hR dL_hands_127 rfl ?_
          have hg := gd_c ho
          rw [gd_e hg] at ho
          have hme := hg
          refine us_callSc 6 36 hR dL_hands_129 (y := 13024) (by decide +kernel) (by decide) (J := i13024) rfl rfl rfl rfl (rest := _) (Nat.le_of_ble_eq_true rfl) rfl rfl (Nat.le_of_ble_eq_true rfl) (Nat.le_of_ble_eq_true rfl) ?_
          obtain ⟨r34, hr34⟩ := bP_ex ho
          replace ho := bP_go ho hr34
          refine sh_13024 h228.1 hme hr34 ?_
          change R _ [some (.ref x0), some (.ref x1), some (.ref x2), some (.ref x3), some (.ref x4), some (.ref x5), some (.int x6), some (.int r23), some (.int r24), some (.int r25), none, none, none, none, none, none] _ _ 560 39240
          refine us_bipushC hR dL_hands_132 (c := 100) (by decide) ?_
          refine us_icmp_ne hR dL_hands_134 153 (by decide) (fun c35 => ?_) (fun c35 => ?_)
          · rw [if_neg c35] at ho
            change R _ [some (.ref x0), some (.ref x1), some (.ref x2), some (.ref x3), some (.ref x4), some (.ref x5), some (.int x6), some (.int r23), some (.int r24), some (.int r25), none, none, none, none, none, none] _ _ 560 39240
            refine us_iconstC hR dL_hands_153 (c := 0) (by decide) ?_
            refine us_istore hR dL_hands_154 (Nat.le_of_ble_eq_true rfl) ?_
            refine us_iconstC hR dL_hands_156 (c := 0) (by decide) ?_
            refine us_istore hR dL_hands_157 (Nat.le_of_ble_eq_true rfl) ?_
            exact h13039_L159 _ x0 x1 x2 x3 x4 x5 x6 r23 r24 r25 0 0 _ _ _ _ S28 G28 _ _ h228 ho
          · rw [if_pos c35] at ho
            change R _ [some (.ref x0), some (.ref x1), some (.ref x2), some (.ref x3), some (.ref x4), some (.ref x5), some (.int x6), some (.int r23), some (.int r24), some (.int r25), none, none, none, none, none, none] _ _ 560 39240
            refine us_aload_n hR dL_hands_137 rfl ?_
            refine us_bipushC hR dL_hands_138 (c := 6) (by decide) ?_
            refine us_iconstC hR dL_hands_140 (c := 0) (by decide) ?_
            have hg := gd_c ho
            rw [gd_e hg] at ho
            have hme := hg
            refine us_callSc 130 9200 hR dL_hands_141 (y := 13014) (by decide +kernel) (by decide) (J := i13014) rfl rfl rfl rfl (rest := _) (Nat.le_of_ble_eq_true rfl) rfl rfl (Nat.le_of_ble_eq_true rfl) (Nat.le_of_ble_eq_true rfl) ?_
            obtain ⟨q36, hs36⟩ := bO_ex ho
            obtain ⟨T36, r36⟩ := q36
            replace ho := bO_go ho hs36
            refine sh_13014 h228.1 hme hs36 (fun G36 h336 hF36 => ?_)
            have h236 := h228.cls h336 hF36
            obtain ⟨S36, hS36⟩ : ∃ Sz, Sz = lT S28 T36 := ⟨_, rfl⟩
            rw [bS_eq, ← hS36] at ho
            rw [← hS36] at h236
            change R _ [some (.ref x0), some (.ref x1), some (.ref x2), some (.ref x3), some (.ref x4), some (.ref x5), some (.int x6), some (.int r23), some (.int r24), some (.int r25), none, none, none, none, none, none] _ _ 430 30040
            refine us_ldc hR dL_hands_144 (v := (-1000001)) (by decide +kernel) ?_
            refine us_icmp_ne hR dL_hands_146 153 (by decide) (fun c37 => ?_) (fun c37 => ?_)
            · rw [if_neg c37] at ho
              change R _ [some (.ref x0), some (.ref x1), some (.ref x2), some (.ref x3), some (.ref x4), some (.ref x5), some (.int x6), some (.int r23), some (.int r24), some (.int r25), none, none, none, none, none, none] _ _ 430 30040
              refine us_iconstC hR dL_hands_153 (c := 0) (by decide) ?_
              refine us_istore hR dL_hands_154 (Nat.le_of_ble_eq_true rfl) ?_
              refine us_iconstC hR dL_hands_156 (c := 0) (by decide) ?_
              refine us_istore hR dL_hands_157 (Nat.le_of_ble_eq_true rfl) ?_
              exact h13039_L159 _ x0 x1 x2 x3 x4 x5 x6 r23 r24 r25 0 0 _ _ _ _ S36 G36 _ _ h236 ho
            · rw [if_pos c37] at ho
              change R _ [some (.ref x0), some (.ref x1), some (.ref x2), some (.ref x3), some (.ref x4), some (.ref x5), some (.int x6), some (.int r23), some (.int r24), some (.int r25), none, none, none, none, none, none] _ _ 430 30040
              refine us_iconstC hR dL_hands_149 (c := 1) (by decide) ?_
              refine us_goto hR dL_hands_150 154 (by decide) ?_
              refine us_istore hR dL_hands_154 (Nat.le_of_ble_eq_true rfl) ?_
              refine us_iconstC hR dL_hands_156 (c := 0) (by decide) ?_
              refine us_istore hR dL_hands_157 (Nat.le_of_ble_eq_true rfl) ?_
              exact h13039_L159 _ x0 x1 x2 x3 x4 x5 x6 r23 r24 r25 1 0 _ _ _ _ S36 G36 _ _ h236 ho
  · rw [if_pos c26] at ho
    change R _ [some (.ref x0), some (.ref x1), some (.ref x2), some (.ref x3), some (.ref x4), some (.ref x5), some (.int x6), some (.int r23), some (.int r24), some (.int r25), none, none, none, none, none, none] _ _ 570 39300
    refine us_iload hR dL_hands_41 rfl ?_
    refine us_ldc hR dL_hands_43 (v := (-1000003)) (by decide +kernel) ?_
    refine us_icmp_ne hR dL_hands_45 52 (by decide) (fun c38 => ?_) (fun c38 => ?_)
    · rw [if_neg c38] at ho
      change R _ [some (.ref x0), some (.ref x1), some (.ref x2), some (.ref x3), some (.ref x4), some (.ref x5), some (.int x6), some (.int r23), some (.int r24), some (.int r25), none, none, none, none, none, none] _ _ 570 39300
      refine us_iconstC hR dL_hands_52 (c := 0) (by decide) ?_
      refine us_iret hR dL_hands_53 rfl (nar01 (Or.inl rfl)) ?_
      cases ho
      exact h _ (Or.inl rfl) h225
    · rw [if_pos c38] at ho
      change R _ [some (.ref x0), some (.ref x1), some (.ref x2), some (.ref x3), some (.ref x4), some (.ref x5), some (.int x6), some (.int r23), some (.int r24), some (.int r25), none, none, none, none, none, none] _ _ 570 39300
      refine us_iconstC hR dL_hands_48 (c := 1) (by decide) ?_
      refine us_goto hR dL_hands_49 53 (by decide) ?_
      refine us_iret hR dL_hands_53 rfl (nar01 (Or.inr rfl)) ?_
      cases ho
      exact h _ (Or.inr rfl) h225
end
