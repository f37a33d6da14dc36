/-! the law: all marks -/
noncomputable section
set_option maxHeartbeats 2000000 in
set_option maxRecDepth 8000 in
theorem n13038_J237 {d : Nat} {P : ab_Pq} {X : ab_Xq} {o : Lx × Int32} {R : ab_K} (hR : ab_Cl (d + 46) (ab_Gam (d + 46)) (mCi i13038) i13038 0 (fun _ => 0) P X R) (h : ∀ G1, (o.2 = 0 ∨ o.2 = 1) → LRep G1 o.1 → P G1 (some (.int o.2))) {n166 : Nat} (ih166 : ∀ (l0 : Nat) (l1 : Nat) (l2 : Nat) (l3 : Nat) (l4 : Nat) (l5 : Int32) (l6 : Int32) (l7 : Int32) (l8 : Int32) (l9 : Int32) (w10 : Option Value) (w11 : Option Value) (w12 : Option Value) (S : Lx) (Ga : ab_G) (bc bs : Nat) (h2 : LRep Ga S) (ho : l_13038_L166 n166 l0 l1 l2 l3 l4 l5 l6 l7 l8 l9 bc bs S = some o), R 166 [some (.ref l0), some (.ref l1), some (.ref l2), some (.ref l3), some (.ref l4), some (.int l5), some (.int l6), some (.int l7), some (.int l8), some (.int l9), w10, w11, w12] [] Ga bc bs) {n183 : Nat} (ih183 : ∀ (l0 : Nat) (l1 : Nat) (l2 : Nat) (l3 : Nat) (l4 : Nat) (l5 : Int32) (l6 : Int32) (l7 : Int32) (l8 : Int32) (l9 : Int32) (l10 : Int32) (l11 : Int32) (w12 : Option Value) (S : Lx) (Ga : ab_G) (bc bs : Nat) (h2 : LRep Ga S) (ho : l_13038_L183 (l_13038_L166 n166) n183 l0 l1 l2 l3 l4 l5 l6 l7 l8 l9 l10 l11 bc bs S = some o), R 183 [some (.ref l0), some (.ref l1), some (.ref l2), some (.ref l3), some (.ref l4), some (.int l5), some (.int l6), some (.int l7), some (.int l8), some (.int l9), some (.int l10), some (.int l11), w12] [] Ga bc bs) : ∀ (l0 : Nat) (l1 : Nat) (l2 : Nat) (l3 : Nat) (l4 : Nat) (l5 : Int32) (l6 : Int32) (l7 : Int32) (l8 : Int32) (l9 : Int32) (l10 : Int32) (l11 : Int32) (l12 : Int32) (k0 : Int32) (k1 : Int32)  (S : Lx) (Ga : ab_G) (bc bs : Nat) (h2 : LRep Ga S) (ho : l_13038_J237 (l_13038_L166 n166) (l_13038_L183 (l_13038_L166 n166) n183) l0 l1 l2 l3 l4 l5 l6 l7 l8 l9 l10 l11 l12 k0 k1 bc bs S = some o), R 237 [some (.ref l0), some (.ref l1), some (.ref l2), some (.ref l3), some (.ref l4), some (.int l5), some (.int l6), some (.int l7), some (.int l8), some (.int l9), some (.int l10), some (.int l11), some (.int l12)] [.int k0, .int k1] Ga bc bs := by
  intro l0 l1 l2 l3 l4 l5 l6 l7 l8 l9 l10 l11 l12 k0 k1  S Ga bc bs h2 ho
  unfold l_13038_J237 at ho
  refine us_iadd hR dL_isMarked_237 ?_
  refine us_istore hR dL_isMarked_238 (Nat.le_of_ble_eq_true rfl) ?_
  refine us_iload hR dL_isMarked_240 rfl ?_
  refine us_if_eq hR dL_isMarked_242 270 (by decide) (fun c1 => ?_) (fun c1 => ?_)
  · rw [if_pos c1] at ho
    refine us_iincC hR dL_isMarked_270 rfl (Nat.le_of_ble_eq_true rfl) (c := 1) (by decide) ?_
    refine us_goto hR dL_isMarked_273 183 (by decide) ?_
    exact ih183 l0 l1 l2 l3 l4 l5 l6 l7 l8 l9 (k1 + k0) (l11 + 1) _ S Ga _ _ h2 ho
  · rw [if_neg c1] at ho
    refine us_aload_n hR dL_isMarked_245 rfl ?_
    refine us_iload hR dL_isMarked_246 rfl ?_
    refine us_iload hR dL_isMarked_248 rfl ?_
    have hg := gd_c ho
    rw [gd_e hg] at ho
    have hme := hg
    have hb := gd_c ho
    rw [gd_e hb] at ho
    refine us_callSc 2 12 hR dL_isMarked_250 (y := 13015) (by decide +kernel) (by decide) (J := i13015) rfl rfl rfl rfl (rest := _) (Nat.le_of_ble_eq_true rfl) rfl rfl hb.1 hb.2 ?_
    obtain ⟨r2, hr2⟩ := bP_ex ho
    replace ho := bP_go ho hr2
    refine sh_13015 h2.1 hme hr2 ?_
    refine us_iconstC hR dL_isMarked_253 (c := 1) (by decide) ?_
    refine us_icmp_ne hR dL_isMarked_254 270 (by decide) (fun c3 => ?_) (fun c3 => ?_)
    · rw [if_neg c3] at ho
      refine us_iincC hR dL_isMarked_270 rfl (Nat.le_of_ble_eq_true rfl) (c := 1) (by decide) ?_
      refine us_goto hR dL_isMarked_273 183 (by decide) ?_
      exact ih183 l0 l1 l2 l3 l4 l5 l6 l7 l8 l9 (k1 + k0) (l11 + 1) _ S Ga _ _ h2 ho
    · rw [if_pos c3] at ho
      refine us_aload_n hR dL_isMarked_257 rfl ?_
      refine us_iload hR dL_isMarked_258 rfl ?_
      refine us_iload hR dL_isMarked_260 rfl ?_
      have hg := gd_c ho
      rw [gd_e hg] at ho
      have hme := hg
      have hb := gd_c ho
      rw [gd_e hb] at ho
      refine us_callSc 2 12 hR dL_isMarked_262 (y := 13016) (by decide +kernel) (by decide) (J := i13016) rfl rfl rfl rfl (rest := _) (Nat.le_of_ble_eq_true rfl) rfl rfl hb.1 hb.2 ?_
      obtain ⟨r4, hr4⟩ := bP_ex ho
      replace ho := bP_go ho hr4
      refine sh_13016 h2.1 hme hr4 ?_
      refine us_if_eq hR dL_isMarked_265 270 (by decide) (fun c5 => ?_) (fun c5 => ?_)
      · rw [if_pos c5] at ho
        refine us_iincC hR dL_isMarked_270 rfl (Nat.le_of_ble_eq_true rfl) (c := 1) (by decide) ?_
        refine us_goto hR dL_isMarked_273 183 (by decide) ?_
        exact ih183 l0 l1 l2 l3 l4 l5 l6 l7 l8 l9 (k1 + k0) (l11 + 1) _ S Ga _ _ h2 ho
      · rw [if_neg c5] at ho
        refine us_iconstC hR dL_isMarked_268 (c := 0) (by decide) ?_
        refine us_iret hR dL_isMarked_269 rfl (nar01 (Or.inl rfl)) ?_
        cases ho
        exact h _ (Or.inl rfl) h2
set_option maxHeartbeats 2000000 in
set_option maxRecDepth 8000 in
theorem n13038_J236 {d : Nat} {P : ab_Pq} {X : ab_Xq} {o : Lx × Int32} {R : ab_K} (hR : ab_Cl (d + 46) (ab_Gam (d + 46)) (mCi i13038) i13038 0 (fun _ => 0) P X R) (h : ∀ G1, (o.2 = 0 ∨ o.2 = 1) → LRep G1 o.1 → P G1 (some (.int o.2))) {n166 : Nat} (ih166 : ∀ (l0 : Nat) (l1 : Nat) (l2 : Nat) (l3 : Nat) (l4 : Nat) (l5 : Int32) (l6 : Int32) (l7 : Int32) (l8 : Int32) (l9 : Int32) (w10 : Option Value) (w11 : Option Value) (w12 : Option Value) (S : Lx) (Ga : ab_G) (bc bs : Nat) (h2 : LRep Ga S) (ho : l_13038_L166 n166 l0 l1 l2 l3 l4 l5 l6 l7 l8 l9 bc bs S = some o), R 166 [some (.ref l0), some (.ref l1), some (.ref l2), some (.ref l3), some (.ref l4), some (.int l5), some (.int l6), some (.int l7), some (.int l8), some (.int l9), w10, w11, w12] [] Ga bc bs) {n183 : Nat} (ih183 : ∀ (l0 : Nat) (l1 : Nat) (l2 : Nat) (l3 : Nat) (l4 : Nat) (l5 : Int32) (l6 : Int32) (l7 : Int32) (l8 : Int32) (l9 : Int32) (l10 : Int32) (l11 : Int32) (w12 : Option Value) (S : Lx) (Ga : ab_G) (bc bs : Nat) (h2 : LRep Ga S) (ho : l_13038_L183 (l_13038_L166 n166) n183 l0 l1 l2 l3 l4 l5 l6 l7 l8 l9 l10 l11 bc bs S = some o), R 183 [some (.ref l0), some (.ref l1), some (.ref l2), some (.ref l3), some (.ref l4), some (.int l5), some (.int l6), some (.int l7), some (.int l8), some (.int l9), some (.int l10), some (.int l11), w12] [] Ga bc bs) : ∀ (l0 : Nat) (l1 : Nat) (l2 : Nat) (l3 : Nat) (l4 : Nat) (l5 : Int32) (l6 : Int32) (l7 : Int32) (l8 : Int32) (l9 : Int32) (l10 : Int32) (l11 : Int32) (l12 : Int32) (k0 : Int32)  (S : Lx) (Ga : ab_G) (bc bs : Nat) (h2 : LRep Ga S) (ho : l_13038_J236 (l_13038_L166 n166) (l_13038_L183 (l_13038_L166 n166) n183) l0 l1 l2 l3 l4 l5 l6 l7 l8 l9 l10 l11 l12 k0 bc bs S = some o), R 236 [some (.ref l0), some (.ref l1), some (.ref l2), some (.ref l3), some (.ref l4), some (.int l5), some (.int l6), some (.int l7), some (.int l8), some (.int l9), some (.int l10), some (.int l11), some (.int l12)] [.int k0] Ga bc bs := by
  have h13038_J237 := n13038_J237 hR h ih166 ih183
  intro l0 l1 l2 l3 l4 l5 l6 l7 l8 l9 l10 l11 l12 k0  S Ga bc bs h2 ho
  unfold l_13038_J236 at ho
  refine us_iconstC hR dL_isMarked_236 (c := 0) (by decide) ?_
  exact h13038_J237 l0 l1 l2 l3 l4 l5 l6 l7 l8 l9 l10 l11 l12 0 k0  S Ga _ _ h2 ho
set_option maxHeartbeats 2000000 in
set_option maxRecDepth 8000 in
theorem n13038_J211 {d : Nat} {P : ab_Pq} {X : ab_Xq} {o : Lx × Int32} {R : ab_K} (hR : ab_Cl (d + 46) (ab_Gam (d + 46)) (mCi i13038) i13038 0 (fun _ => 0) P X R) (h : ∀ G1, (o.2 = 0 ∨ o.2 = 1) → LRep G1 o.1 → P G1 (some (.int o.2))) {n166 : Nat} (ih166 : ∀ (l0 : Nat) (l1 : Nat) (l2 : Nat) (l3 : Nat) (l4 : Nat) (l5 : Int32) (l6 : Int32) (l7 : Int32) (l8 : Int32) (l9 : Int32) (w10 : Option Value) (w11 : Option Value) (w12 : Option Value) (S : Lx) (Ga : ab_G) (bc bs : Nat) (h2 : LRep Ga S) (ho : l_13038_L166 n166 l0 l1 l2 l3 l4 l5 l6 l7 l8 l9 bc bs S = some o), R 166 [some (.ref l0), some (.ref l1), some (.ref l2), some (.ref l3), some (.ref l4), some (.int l5), some (.int l6), some (.int l7), some (.int l8), some (.int l9), w10, w11, w12] [] Ga bc bs) {n183 : Nat} (ih183 : ∀ (l0 : Nat) (l1 : Nat) (l2 : Nat) (l3 : Nat) (l4 : Nat) (l5 : Int32) (l6 : Int32) (l7 : Int32) (l8 : Int32) (l9 : Int32) (l10 : Int32) (l11 : Int32) (w12 : Option Value) (S : Lx) (Ga : ab_G) (bc bs : Nat) (h2 : LRep Ga S) (ho : l_13038_L183 (l_13038_L166 n166) n183 l0 l1 l2 l3 l4 l5 l6 l7 l8 l9 l10 l11 bc bs S = some o), R 183 [some (.ref l0), some (.ref l1), some (.ref l2), some (.ref l3), some (.ref l4), some (.int l5), some (.int l6), some (.int l7), some (.int l8), some (.int l9), some (.int l10), some (.int l11), w12] [] Ga bc bs) : ∀ (l0 : Nat) (l1 : Nat) (l2 : Nat) (l3 : Nat) (l4 : Nat) (l5 : Int32) (l6 : Int32) (l7 : Int32) (l8 : Int32) (l9 : Int32) (l10 : Int32) (l11 : Int32) (k0 : Int32) (w12 : Option Value) (S : Lx) (Ga : ab_G) (bc bs : Nat) (h2 : LRep Ga S) (ho : l_13038_J211 (l_13038_L166 n166) (l_13038_L183 (l_13038_L166 n166) n183) l0 l1 l2 l3 l4 l5 l6 l7 l8 l9 l10 l11 k0 bc bs S = some o), R 211 [some (.ref l0), some (.ref l1), some (.ref l2), some (.ref l3), some (.ref l4), some (.int l5), some (.int l6), some (.int l7), some (.int l8), some (.int l9), some (.int l10), some (.int l11), w12] [.int k0] Ga bc bs := by
  have h13038_J237 := n13038_J237 hR h ih166 ih183
  have h13038_J236 := n13038_J236 hR h ih166 ih183
  intro l0 l1 l2 l3 l4 l5 l6 l7 l8 l9 l10 l11 k0 w12 S Ga bc bs h2 ho
  unfold l_13038_J211 at ho
  refine us_istore hR dL_isMarked_211 (Nat.le_of_ble_eq_true rfl) ?_
  refine us_iload hR dL_isMarked_213 rfl ?_
  refine us_iload hR dL_isMarked_215 rfl ?_
  refine us_if_eq hR dL_isMarked_217 236 (by decide) (fun c6 => ?_) (fun c6 => ?_)
  · rw [if_pos c6] at ho
    exact h13038_J236 l0 l1 l2 l3 l4 l5 l6 l7 l8 l9 l10 l11 k0 l10  S Ga _ _ h2 ho
  · rw [if_neg c6] at ho
    refine us_aload_n hR dL_isMarked_220 rfl ?_
    refine us_iload hR dL_isMarked_221 rfl ?_
    refine us_iload hR dL_isMarked_223 rfl ?_
    have hg := gd_c ho
    rw [gd_e hg] at ho
    have hme := hg
    have hb := gd_c ho
    rw [gd_e hb] at ho
    refine us_callSc 2 12 hR dL_isMarked_225 (y := 13015) (by decide +kernel) (by decide) (J := i13015) rfl rfl rfl rfl (rest := _) (Nat.le_of_ble_eq_true rfl) rfl rfl hb.1 hb.2 ?_
    obtain ⟨r7, hr7⟩ := bP_ex ho
    replace ho := bP_go ho hr7
    refine sh_13015 h2.1 hme hr7 ?_
    refine us_iconstC hR dL_isMarked_228 (c := 1) (by decide) ?_
    refine us_icmp_ne hR dL_isMarked_229 236 (by decide) (fun c8 => ?_) (fun c8 => ?_)
    · rw [if_neg c8] at ho
      exact h13038_J236 l0 l1 l2 l3 l4 l5 l6 l7 l8 l9 l10 l11 k0 l10  S Ga _ _ h2 ho
    · rw [if_pos c8] at ho
      refine us_iconstC hR dL_isMarked_232 (c := 1) (by decide) ?_
      refine us_goto hR dL_isMarked_233 237 (by decide) ?_
      exact h13038_J237 l0 l1 l2 l3 l4 l5 l6 l7 l8 l9 l10 l11 k0 1 l10  S Ga _ _ h2 ho
set_option maxHeartbeats 2000000 in
set_option maxRecDepth 8000 in
theorem n13038_L183 {d : Nat} {P : ab_Pq} {X : ab_Xq} {o : Lx × Int32} {R : ab_K} (hR : ab_Cl (d + 46) (ab_Gam (d + 46)) (mCi i13038) i13038 0 (fun _ => 0) P X R) (h : ∀ G1, (o.2 = 0 ∨ o.2 = 1) → LRep G1 o.1 → P G1 (some (.int o.2))) {n166 : Nat} (ih166 : ∀ (l0 : Nat) (l1 : Nat) (l2 : Nat) (l3 : Nat) (l4 : Nat) (l5 : Int32) (l6 : Int32) (l7 : Int32) (l8 : Int32) (l9 : Int32) (w10 : Option Value) (w11 : Option Value) (w12 : Option Value) (S : Lx) (Ga : ab_G) (bc bs : Nat) (h2 : LRep Ga S) (ho : l_13038_L166 n166 l0 l1 l2 l3 l4 l5 l6 l7 l8 l9 bc bs S = some o), R 166 [some (.ref l0), some (.ref l1), some (.ref l2), some (.ref l3), some (.ref l4), some (.int l5), some (.int l6), some (.int l7), some (.int l8), some (.int l9), w10, w11, w12] [] Ga bc bs) : ∀ (n : Nat) (l0 : Nat) (l1 : Nat) (l2 : Nat) (l3 : Nat) (l4 : Nat) (l5 : Int32) (l6 : Int32) (l7 : Int32) (l8 : Int32) (l9 : Int32) (l10 : Int32) (l11 : Int32) (w12 : Option Value) (S : Lx) (Ga : ab_G) (bc bs : Nat) (h2 : LRep Ga S) (ho : l_13038_L183 (l_13038_L166 n166) n l0 l1 l2 l3 l4 l5 l6 l7 l8 l9 l10 l11 bc bs S = some o), R 183 [some (.ref l0), some (.ref l1), some (.ref l2), some (.ref l3), some (.ref l4), some (.int l5), some (.int l6), some (.int l7), some (.int l8), some (.int l9), some (.int l10), some (.int l11), w12] [] Ga bc bs := by
  intro n
  induction n with
  | zero => intro l0 l1 l2 l3 l4 l5 l6 l7 l8 l9 l10 l11 w12 S Ga bc bs h2 ho; exact absurd ho (by rw [l_13038_L183]; intro hc; cases hc)
  | succ n183 ih183 =>
    have h13038_J211 := n13038_J211 hR h ih166 ih183
    intro l0 l1 l2 l3 l4 l5 l6 l7 l8 l9 l10 l11 w12 S Ga bc bs h2 ho
    rw [l_13038_L183] at ho
    refine us_iload hR dL_isMarked_183 rfl ?_
    refine us_aload hR dL_isMarked_185 rfl ?_
    refine us_iconstC hR dL_isMarked_187 (c := 1) (by decide) ?_
    have hg := gd_c ho
    rw [gd_e hg] at ho
    refine ul_iaload h2 hg hR dL_isMarked_188 ?_
    refine us_icmp_ge hR dL_isMarked_189 276 (by decide) (fun c9 => ?_) (fun c9 => ?_)
    · rw [if_pos c9] at ho
      refine us_aload_n hR dL_isMarked_276 rfl ?_
      refine us_iload hR dL_isMarked_277 rfl ?_
      refine us_iload hR dL_isMarked_279 rfl ?_
      have hg := gd_c ho
      rw [gd_e hg] at ho
      have hme := hg
      have hb := gd_c ho
      rw [gd_e hb] at ho
      refine us_callSc 2 12 hR dL_isMarked_281 (y := 13021) (by decide +kernel) (by decide) (J := i13021) rfl rfl rfl rfl (rest := _) (Nat.le_of_ble_eq_true rfl) rfl rfl hb.1 hb.2 ?_
      obtain ⟨r10, hr10⟩ := bP_ex ho
      replace ho := bP_go ho hr10
      refine sh_13021 h2.1 hme hr10 ?_
      refine us_iload hR dL_isMarked_284 rfl ?_
      refine us_icmp_eq hR dL_isMarked_286 291 (by decide) (fun c11 => ?_) (fun c11 => ?_)
      · rw [if_pos c11] at ho
        refine us_iincC hR dL_isMarked_291 rfl (Nat.le_of_ble_eq_true rfl) (c := 1) (by decide) ?_
        refine us_goto hR dL_isMarked_294 166 (by decide) ?_
        exact ih166 l0 l1 l2 l3 l4 l5 l6 l7 l8 (l9 + 1) _ _ _ S Ga _ _ h2 ho
      · rw [if_neg c11] at ho
        refine us_iconstC hR dL_isMarked_289 (c := 0) (by decide) ?_
        refine us_iret hR dL_isMarked_290 rfl (nar01 (Or.inl rfl)) ?_
        cases ho
        exact h _ (Or.inl rfl) h2
    · rw [if_neg c9] at ho
      refine us_aload_n hR dL_isMarked_192 rfl ?_
      refine us_iload hR dL_isMarked_193 rfl ?_
      have hg := gd_c ho
      rw [gd_e hg] at ho
      refine ul_iaload h2 hg hR dL_isMarked_195 ?_
      refine us_bipushC hR dL_isMarked_196 (c := 8) (by decide) ?_
      have hg := gd_c ho
      rw [gd_e hg] at ho
      refine us_idiv hR dL_isMarked_198 hg ?_
      refine us_iconstC hR dL_isMarked_199 (c := 4) (by decide) ?_
      have hg := gd_c ho
      rw [gd_e hg] at ho
      refine us_irem hR dL_isMarked_200 hg ?_
      refine us_iload hR dL_isMarked_201 rfl ?_
      refine us_icmp_ne hR dL_isMarked_203 210 (by decide) (fun c12 => ?_) (fun c12 => ?_)
      · rw [if_neg c12] at ho
        refine us_iconstC hR dL_isMarked_210 (c := 0) (by decide) ?_
        exact h13038_J211 l0 l1 l2 l3 l4 l5 l6 l7 l8 l9 l10 l11 0 _ S Ga _ _ h2 ho
      · rw [if_pos c12] at ho
        refine us_iconstC hR dL_isMarked_206 (c := 1) (by decide) ?_
        refine us_goto hR dL_isMarked_207 211 (by decide) ?_
        exact h13038_J211 l0 l1 l2 l3 l4 l5 l6 l7 l8 l9 l10 l11 1 _ S Ga _ _ h2 ho
set_option maxHeartbeats 2000000 in
set_option maxRecDepth 8000 in
theorem n13038_L166 {d : Nat} {P : ab_Pq} {X : ab_Xq} {o : Lx × Int32} {R : ab_K} (hR : ab_Cl (d + 46) (ab_Gam (d + 46)) (mCi i13038) i13038 0 (fun _ => 0) P X R) (h : ∀ G1, (o.2 = 0 ∨ o.2 = 1) → LRep G1 o.1 → P G1 (some (.int o.2))) : ∀ (n : Nat) (l0 : Nat) (l1 : Nat) (l2 : Nat) (l3 : Nat) (l4 : Nat) (l5 : Int32) (l6 : Int32) (l7 : Int32) (l8 : Int32) (l9 : Int32) (w10 : Option Value) (w11 : Option Value) (w12 : Option Value) (S : Lx) (Ga : ab_G) (bc bs : Nat) (h2 : LRep Ga S) (ho : l_13038_L166 n l0 l1 l2 l3 l4 l5 l6 l7 l8 l9 bc bs S = some o), R 166 [some (.ref l0), some (.ref l1), some (.ref l2), some (.ref l3), some (.ref l4), some (.int l5), some (.int l6), some (.int l7), some (.int l8), some (.int l9), w10, w11, w12] [] Ga bc bs := by
  intro n
  induction n with
  | zero => intro l0 l1 l2 l3 l4 l5 l6 l7 l8 l9 w10 w11 w12 S Ga bc bs h2 ho; exact absurd ho (by rw [l_13038_L166]; intro hc; cases hc)
  | succ n166 ih166 =>
    have h13038_L183 := n13038_L183 hR h ih166
    intro l0 l1 l2 l3 l4 l5 l6 l7 l8 l9 w10 w11 w12 S Ga bc bs h2 ho
    rw [l_13038_L166] at ho
    refine us_iload hR dL_isMarked_166 rfl ?_
    refine us_aload_n hR dL_isMarked_168 rfl ?_
    refine us_iconstC hR dL_isMarked_169 (c := 4) (by decide) ?_
    refine us_iload hR dL_isMarked_170 rfl ?_
    refine us_iadd hR dL_isMarked_172 ?_
    have hg := gd_c ho
    rw [gd_e hg] at ho
    refine ul_iaload h2 hg hR dL_isMarked_173 ?_
    refine us_icmp_ge hR dL_isMarked_174 297 (by decide) (fun c13 => ?_) (fun c13 => ?_)
    · rw [if_pos c13] at ho
      refine us_aload_n hR dL_isMarked_297 rfl ?_
      refine us_iload hR dL_isMarked_298 rfl ?_
      refine us_iload hR dL_isMarked_300 rfl ?_
      have hg := gd_c ho
      rw [gd_e hg] at ho
      have hme := hg
      have hb := gd_c ho
      rw [gd_e hb] at ho
      refine us_callSc 2 12 hR dL_isMarked_302 (y := 13020) (by decide +kernel) (by decide) (J := i13020) rfl rfl rfl rfl (rest := _) (Nat.le_of_ble_eq_true rfl) rfl rfl hb.1 hb.2 ?_
      obtain ⟨r14, hr14⟩ := bP_ex ho
      replace ho := bP_go ho hr14
      refine sh_13020 h2.1 hme hr14 ?_
      refine us_iload hR dL_isMarked_305 rfl ?_
      refine us_icmp_ne hR dL_isMarked_307 378 (by decide) (fun c15 => ?_) (fun c15 => ?_)
      · rw [if_neg c15] at ho
        refine us_iconstC hR dL_isMarked_378 (c := 0) (by decide) ?_
        refine us_iret hR dL_isMarked_379 rfl (nar01 (Or.inl rfl)) ?_
        cases ho
        exact h _ (Or.inl rfl) h2
      · rw [if_pos c15] at ho
        refine us_aload_n hR dL_isMarked_310 rfl ?_
        have hg := gd_c ho
        rw [gd_e hg] at ho
        refine us_callV0 hR dL_isMarked_311 (y := 11021) (by decide +kernel) (by decide) (J := i11021) rfl rfl rfl rfl (H_kind1 h2.1 hg (by decide)) rfl (Nat.le_of_ble_eq_true rfl) rfl rfl ?_
        obtain ⟨r16, hr16⟩ := bP_ex ho
        replace ho := bP_go ho hr16
        refine sh_11021 h2.1 hr16 ?_
        refine us_aload hR dL_isMarked_314 rfl ?_
        refine us_iconstC hR dL_isMarked_316 (c := 1) (by decide) ?_
        have hg := gd_c ho
        rw [gd_e hg] at ho
        refine ul_iaload h2 hg hR dL_isMarked_317 ?_
        refine us_icmp_ne hR dL_isMarked_318 378 (by decide) (fun c17 => ?_) (fun c17 => ?_)
        · rw [if_neg c17] at ho
          refine us_iconstC hR dL_isMarked_378 (c := 0) (by decide) ?_
          refine us_iret hR dL_isMarked_379 rfl (nar01 (Or.inl rfl)) ?_
          cases ho
          exact h _ (Or.inl rfl) h2
        · rw [if_pos c17] at ho
          refine us_aload_n hR dL_isMarked_321 rfl ?_
          have hg := gd_c ho
          rw [gd_e hg] at ho
          refine us_callV0 hR dL_isMarked_322 (y := 11019) (by decide +kernel) (by decide) (J := i11019) rfl rfl rfl rfl (H_kind1 h2.1 hg (by decide)) rfl (Nat.le_of_ble_eq_true rfl) rfl rfl ?_
          obtain ⟨r18, hr18⟩ := bP_ex ho
          replace ho := bP_go ho hr18
          refine sh_11019 h2.1 hr18 ?_
          refine us_aload hR dL_isMarked_325 rfl ?_
          refine us_iconstC hR dL_isMarked_327 (c := 2) (by decide) ?_
          have hg := gd_c ho
          rw [gd_e hg] at ho
          refine ul_iaload h2 hg hR dL_isMarked_328 ?_
          refine us_icmp_ne hR dL_isMarked_329 378 (by decide) (fun c19 => ?_) (fun c19 => ?_)
          · rw [if_neg c19] at ho
            refine us_iconstC hR dL_isMarked_378 (c := 0) (by decide) ?_
            refine us_iret hR dL_isMarked_379 rfl (nar01 (Or.inl rfl)) ?_
            cases ho
            exact h _ (Or.inl rfl) h2
          · rw [if_pos c19] at ho
            refine us_aload_n hR dL_isMarked_332 rfl ?_
            refine us_aload hR dL_isMarked_333 rfl ?_
            refine us_iconstC hR dL_isMarked_335 (c := 1) (by decide) ?_
            have hg := gd_c ho
            rw [gd_e hg] at ho
            refine ul_iaload h2 hg hR dL_isMarked_336 ?_
            have hg := gd_c ho
            rw [gd_e hg] at ho
            have hme := hg
            have hb := gd_c ho
            rw [gd_e hb] at ho
            refine us_callSc 1 6 hR dL_isMarked_337 (y := 13018) (by decide +kernel) (by decide) (J := i13018) rfl rfl rfl rfl (rest := _) (Nat.le_of_ble_eq_true rfl) rfl rfl hb.1 hb.2 ?_
            obtain ⟨r20, hr20⟩ := bP_ex ho
            replace ho := bP_go ho hr20
            refine sh_13018 h2.1 hme hr20 ?_
            refine us_ldc hR dL_isMarked_340 (v := (-1000001)) (by decide +kernel) ?_
            refine us_icmp_ne hR dL_isMarked_342 378 (by decide) (fun c21 => ?_) (fun c21 => ?_)
            · rw [if_neg c21] at ho
              refine us_iconstC hR dL_isMarked_378 (c := 0) (by decide) ?_
              refine us_iret hR dL_isMarked_379 rfl (nar01 (Or.inl rfl)) ?_
              cases ho
              exact h _ (Or.inl rfl) h2
            · rw [if_pos c21] at ho
              refine us_aload_n hR dL_isMarked_345 rfl ?_
              refine us_iload hR dL_isMarked_346 rfl ?_
              refine us_aload_n hR dL_isMarked_348 rfl ?_
              refine us_iconstC hR dL_isMarked_349 (c := 4) (by decide) ?_
              refine us_iload hR dL_isMarked_350 rfl ?_
              refine us_iadd hR dL_isMarked_352 ?_
              have hg := gd_c ho
              rw [gd_e hg] at ho
              refine ul_iaload h2 hg hR dL_isMarked_353 ?_
              have hg := gd_c ho
              rw [gd_e hg] at ho
              have hme := hg
              have hb := gd_c ho
              rw [gd_e hb] at ho
              refine us_callSc 2 12 hR dL_isMarked_354 (y := 13021) (by decide +kernel) (by decide) (J := i13021) rfl rfl rfl rfl (rest := _) (Nat.le_of_ble_eq_true rfl) rfl rfl hb.1 hb.2 ?_
              obtain ⟨r22, hr22⟩ := bP_ex ho
              replace ho := bP_go ho hr22
              refine sh_13021 h2.1 hme hr22 ?_
              refine us_ldc hR dL_isMarked_357 (v := (-1000001)) (by decide +kernel) ?_
              refine us_icmp_ne hR dL_isMarked_359 378 (by decide) (fun c23 => ?_) (fun c23 => ?_)
              · rw [if_neg c23] at ho
                refine us_iconstC hR dL_isMarked_378 (c := 0) (by decide) ?_
                refine us_iret hR dL_isMarked_379 rfl (nar01 (Or.inl rfl)) ?_
                cases ho
                exact h _ (Or.inl rfl) h2
              · rw [if_pos c23] at ho
                refine us_aload_n hR dL_isMarked_362 rfl ?_
                refine us_bipushC hR dL_isMarked_363 (c := 6) (by decide) ?_
                refine us_iconstC hR dL_isMarked_365 (c := 0) (by decide) ?_
                have hg := gd_c ho
                rw [gd_e hg] at ho
                have hme := hg
                have hb := gd_c ho
                rw [gd_e hb] at ho
                refine us_callSc 2 12 hR dL_isMarked_366 (y := 13020) (by decide +kernel) (by decide) (J := i13020) rfl rfl rfl rfl (rest := _) (Nat.le_of_ble_eq_true rfl) rfl rfl hb.1 hb.2 ?_
                obtain ⟨r24, hr24⟩ := bP_ex ho
                replace ho := bP_go ho hr24
                refine sh_13020 h2.1 hme hr24 ?_
                refine us_ldc hR dL_isMarked_369 (v := (-1000001)) (by decide +kernel) ?_
                refine us_icmp_ne hR dL_isMarked_371 378 (by decide) (fun c25 => ?_) (fun c25 => ?_)
                · rw [if_neg c25] at ho
                  refine us_iconstC hR dL_isMarked_378 (c := 0) (by decide) ?_
                  refine us_iret hR dL_isMarked_379 rfl (nar01 (Or.inl rfl)) ?_
                  cases ho
                  exact h _ (Or.inl rfl) h2
                · rw [if_pos c25] at ho
                  refine us_iconstC hR dL_isMarked_374 (c := 1) (by decide) ?_
                  refine us_goto hR dL_isMarked_375 379 (by decide) ?_
                  refine us_iret hR dL_isMarked_379 rfl (nar01 (Or.inr rfl)) ?_
                  cases ho
                  exact h _ (Or.inr rfl) h2
    · rw [if_neg c13] at ho
      refine us_iconstC hR dL_isMarked_177 (c := 0) (by decide) ?_
      refine us_istore hR dL_isMarked_178 (Nat.le_of_ble_eq_true rfl) ?_
      refine us_iconstC hR dL_isMarked_180 (c := 0) (by decide) ?_
      refine us_istore hR dL_isMarked_181 (Nat.le_of_ble_eq_true rfl) ?_
      exact h13038_L183 _ l0 l1 l2 l3 l4 l5 l6 l7 l8 l9 0 0 _ S Ga _ _ h2 ho
set_option maxHeartbeats 2000000 in
set_option maxRecDepth 8000 in
theorem n13038_J115 {d : Nat} {P : ab_Pq} {X : ab_Xq} {o : Lx × Int32} {R : ab_K} (hR : ab_Cl (d + 46) (ab_Gam (d + 46)) (mCi i13038) i13038 0 (fun _ => 0) P X R) (h : ∀ G1, (o.2 = 0 ∨ o.2 = 1) → LRep G1 o.1 → P G1 (some (.int o.2))) {n28 : Nat} (ih28 : ∀ (l0 : Nat) (l1 : Nat) (l2 : Nat) (l3 : Nat) (l4 : Nat) (l5 : Int32) (l6 : Int32) (l7 : Int32) (l8 : Int32) (l9 : Int32) (w10 : Option Value) (w11 : Option Value) (S : Lx) (Ga : ab_G) (bc bs : Nat) (h2 : LRep Ga S) (ho : l_13038_L28 n28 l0 l1 l2 l3 l4 l5 l6 l7 l8 l9 bc bs S = some o), R 28 [some (.ref l0), some (.ref l1), some (.ref l2), some (.ref l3), some (.ref l4), some (.int l5), some (.int l6), some (.int l7), some (.int l8), some (.int l9), w10, w11, none] [] Ga bc bs) : ∀ (l0 : Nat) (l1 : Nat) (l2 : Nat) (l3 : Nat) (l4 : Nat) (l5 : Int32) (l6 : Int32) (l7 : Int32) (l8 : Int32) (l9 : Int32) (l10 : Int32) (l11 : Int32)  (S : Lx) (Ga : ab_G) (bc bs : Nat) (h2 : LRep Ga S) (ho : l_13038_J115 (l_13038_L28 n28) l0 l1 l2 l3 l4 l5 l6 l7 l8 l9 l10 l11 bc bs S = some o), R 115 [some (.ref l0), some (.ref l1), some (.ref l2), some (.ref l3), some (.ref l4), some (.int l5), some (.int l6), some (.int l7), some (.int l8), some (.int l9), some (.int l10), some (.int l11), none] [] Ga bc bs := by
  intro l0 l1 l2 l3 l4 l5 l6 l7 l8 l9 l10 l11  S Ga bc bs h2 ho
  unfold l_13038_J115 at ho
  refine us_aload_n hR dL_isMarked_115 rfl ?_
  refine us_iload hR dL_isMarked_116 rfl ?_
  have hg := gd_c ho
  rw [gd_e hg] at ho
  refine ul_iaload h2 hg hR dL_isMarked_118 ?_
  refine us_bipushC hR dL_isMarked_119 (c := 8) (by decide) ?_
  have hg := gd_c ho
  rw [gd_e hg] at ho
  refine us_irem hR dL_isMarked_121 hg ?_
  refine us_iload hR dL_isMarked_122 rfl ?_
  refine us_icmp_ne hR dL_isMarked_124 153 (by decide) (fun c26 => ?_) (fun c26 => ?_)
  · rw [if_neg c26] at ho
    refine us_iload hR dL_isMarked_153 rfl ?_
    refine us_istore hR dL_isMarked_155 (Nat.le_of_ble_eq_true rfl) ?_
    refine us_iincC hR dL_isMarked_157 rfl (Nat.le_of_ble_eq_true rfl) (c := 1) (by decide) ?_
    change R _ [some (.ref l0), some (.ref l1), some (.ref l2), some (.ref l3), some (.ref l4), some (.int l5), some (.int l6), some (.int l7), some (.int l8), some (.int (l9 + 1)), some (.int l10), some (.int l11), none] _ _ _ _
    refine us_goto hR dL_isMarked_160 28 (by decide) ?_
    exact ih28 l0 l1 l2 l3 l4 l5 l6 l7 l8 (l9 + 1) _ _ S Ga _ _ h2 ho
  · rw [if_pos c26] at ho
    refine us_aload_n hR dL_isMarked_127 rfl ?_
    refine us_iload hR dL_isMarked_128 rfl ?_
    have hg := gd_c ho
    rw [gd_e hg] at ho
    refine ul_iaload h2 hg hR dL_isMarked_130 ?_
    refine us_bipushC hR dL_isMarked_131 (c := 8) (by decide) ?_
    have hg := gd_c ho
    rw [gd_e hg] at ho
    refine us_idiv hR dL_isMarked_133 hg ?_
    refine us_iconstC hR dL_isMarked_134 (c := 4) (by decide) ?_
    have hg := gd_c ho
    rw [gd_e hg] at ho
    refine us_irem hR dL_isMarked_135 hg ?_
    refine us_iload hR dL_isMarked_136 rfl ?_
    refine us_icmp_ne hR dL_isMarked_138 153 (by decide) (fun c27 => ?_) (fun c27 => ?_)
    · rw [if_neg c27] at ho
      refine us_iload hR dL_isMarked_153 rfl ?_
      refine us_istore hR dL_isMarked_155 (Nat.le_of_ble_eq_true rfl) ?_
      refine us_iincC hR dL_isMarked_157 rfl (Nat.le_of_ble_eq_true rfl) (c := 1) (by decide) ?_
      change R _ [some (.ref l0), some (.ref l1), some (.ref l2), some (.ref l3), some (.ref l4), some (.int l5), some (.int l6), some (.int l7), some (.int l8), some (.int (l9 + 1)), some (.int l10), some (.int l11), none] _ _ _ _
      refine us_goto hR dL_isMarked_160 28 (by decide) ?_
      exact ih28 l0 l1 l2 l3 l4 l5 l6 l7 l8 (l9 + 1) _ _ S Ga _ _ h2 ho
    · rw [if_pos c27] at ho
      refine us_iload hR dL_isMarked_141 rfl ?_
      refine us_iload hR dL_isMarked_143 rfl ?_
      refine us_icmp_le hR dL_isMarked_145 153 (by decide) (fun c28 => ?_) (fun c28 => ?_)
      · rw [if_pos c28] at ho
        refine us_iload hR dL_isMarked_153 rfl ?_
        refine us_istore hR dL_isMarked_155 (Nat.le_of_ble_eq_true rfl) ?_
        refine us_iincC hR dL_isMarked_157 rfl (Nat.le_of_ble_eq_true rfl) (c := 1) (by decide) ?_
        change R _ [some (.ref l0), some (.ref l1), some (.ref l2), some (.ref l3), some (.ref l4), some (.int l5), some (.int l6), some (.int l7), some (.int l8), some (.int (l9 + 1)), some (.int l10), some (.int l11), none] _ _ _ _
        refine us_goto hR dL_isMarked_160 28 (by decide) ?_
        exact ih28 l0 l1 l2 l3 l4 l5 l6 l7 l8 (l9 + 1) _ _ S Ga _ _ h2 ho
      · rw [if_neg c28] at ho
        refine us_iload hR dL_isMarked_148 rfl ?_
        refine us_goto hR dL_isMarked_150 155 (by decide) ?_
        refine us_istore hR dL_isMarked_155 (Nat.le_of_ble_eq_true rfl) ?_
        refine us_iincC hR dL_isMarked_157 rfl (Nat.le_of_ble_eq_true rfl) (c := 1) (by decide) ?_
        change R _ [some (.ref l0), some (.ref l1), some (.ref l2), some (.ref l3), some (.ref l4), some (.int l5), some (.int l6), some (.int l7), some (.int l10), some (.int (l9 + 1)), some (.int l10), some (.int l11), none] _ _ _ _
        refine us_goto hR dL_isMarked_160 28 (by decide) ?_
        exact ih28 l0 l1 l2 l3 l4 l5 l6 l7 l10 (l9 + 1) _ _ S Ga _ _ h2 ho
set_option maxHeartbeats 2000000 in
set_option maxRecDepth 8000 in
theorem n13038_J84 {d : Nat} {P : ab_Pq} {X : ab_Xq} {o : Lx × Int32} {R : ab_K} (hR : ab_Cl (d + 46) (ab_Gam (d + 46)) (mCi i13038) i13038 0 (fun _ => 0) P X R) (h : ∀ G1, (o.2 = 0 ∨ o.2 = 1) → LRep G1 o.1 → P G1 (some (.int o.2))) {n28 : Nat} (ih28 : ∀ (l0 : Nat) (l1 : Nat) (l2 : Nat) (l3 : Nat) (l4 : Nat) (l5 : Int32) (l6 : Int32) (l7 : Int32) (l8 : Int32) (l9 : Int32) (w10 : Option Value) (w11 : Option Value) (S : Lx) (Ga : ab_G) (bc bs : Nat) (h2 : LRep Ga S) (ho : l_13038_L28 n28 l0 l1 l2 l3 l4 l5 l6 l7 l8 l9 bc bs S = some o), R 28 [some (.ref l0), some (.ref l1), some (.ref l2), some (.ref l3), some (.ref l4), some (.int l5), some (.int l6), some (.int l7), some (.int l8), some (.int l9), w10, w11, none] [] Ga bc bs) : ∀ (l0 : Nat) (l1 : Nat) (l2 : Nat) (l3 : Nat) (l4 : Nat) (l5 : Int32) (l6 : Int32) (l7 : Int32) (l8 : Int32) (l9 : Int32) (l10 : Int32) (k0 : Int32) (w11 : Option Value) (S : Lx) (Ga : ab_G) (bc bs : Nat) (h2 : LRep Ga S) (ho : l_13038_J84 (l_13038_L28 n28) l0 l1 l2 l3 l4 l5 l6 l7 l8 l9 l10 k0 bc bs S = some o), R 84 [some (.ref l0), some (.ref l1), some (.ref l2), some (.ref l3), some (.ref l4), some (.int l5), some (.int l6), some (.int l7), some (.int l8), some (.int l9), some (.int l10), w11, none] [.int k0] Ga bc bs := by
  have h13038_J115 := n13038_J115 hR h ih28
  intro l0 l1 l2 l3 l4 l5 l6 l7 l8 l9 l10 k0 w11 S Ga bc bs h2 ho
  unfold l_13038_J84 at ho
  refine us_istore hR dL_isMarked_84 (Nat.le_of_ble_eq_true rfl) ?_
  refine us_iload hR dL_isMarked_86 rfl ?_
  refine us_if_eq hR dL_isMarked_88 113 (by decide) (fun c29 => ?_) (fun c29 => ?_)
  · rw [if_pos c29] at ho
    refine us_iconstC hR dL_isMarked_113 (c := 0) (by decide) ?_
    refine us_iret hR dL_isMarked_114 rfl (nar01 (Or.inl rfl)) ?_
    cases ho
    exact h _ (Or.inl rfl) h2
  · rw [if_neg c29] at ho
    refine us_iload hR dL_isMarked_91 rfl ?_
    refine us_iload hR dL_isMarked_93 rfl ?_
    refine us_iadd hR dL_isMarked_95 ?_
    refine us_bipushC hR dL_isMarked_96 (c := 7) (by decide) ?_
    have hg := gd_c ho
    rw [gd_e hg] at ho
    refine us_irem hR dL_isMarked_98 hg ?_
    refine us_if_ne hR dL_isMarked_99 115 (by decide) (fun c30 => ?_) (fun c30 => ?_)
    · rw [if_neg c30] at ho
      exact h13038_J115 l0 l1 l2 l3 l4 l5 l6 l7 l8 l9 l10 k0  S Ga _ _ h2 ho
    · rw [if_pos c30] at ho
      refine us_aload_n hR dL_isMarked_102 rfl ?_
      refine us_iload hR dL_isMarked_103 rfl ?_
      have hg := gd_c ho
      rw [gd_e hg] at ho
      have hme := hg
      have hb := gd_c ho
      rw [gd_e hb] at ho
      refine us_callSc 9 54 hR dL_isMarked_105 (y := 13019) (by decide +kernel) (by decide) (J := i13019) rfl rfl rfl rfl (rest := _) (Nat.le_of_ble_eq_true rfl) rfl rfl hb.1 hb.2 ?_
      obtain ⟨q31, hs31⟩ := bO_ex ho
      obtain ⟨T31, r31⟩ := q31
      replace ho := bO_go ho hs31
      refine sh_13019 h2.1 hme hs31 (fun G31 h331 hF31 => ?_)
      have h231 := h2.cls h331 hF31
      obtain ⟨S31, hS31⟩ : ∃ Sz, Sz = lT S T31 := ⟨_, rfl⟩
      rw [bS_eq, ← hS31] at ho
      rw [← hS31] at h231
      refine us_iload hR dL_isMarked_108 rfl ?_
      refine us_icmp_eq hR dL_isMarked_110 115 (by decide) (fun c32 => ?_) (fun c32 => ?_)
      · rw [if_pos c32] at ho
        exact h13038_J115 l0 l1 l2 l3 l4 l5 l6 l7 l8 l9 l10 k0  S31 G31 _ _ h231 ho
      · rw [if_neg c32] at ho
        refine us_iconstC hR dL_isMarked_113 (c := 0) (by decide) ?_
        refine us_iret hR dL_isMarked_114 rfl (nar01 (Or.inl rfl)) ?_
        cases ho
        exact h _ (Or.inl rfl) h231
set_option maxHeartbeats 2000000 in
set_option maxRecDepth 8000 in
theorem n13038_J83 {d : Nat} {P : ab_Pq} {X : ab_Xq} {o : Lx × Int32} {R : ab_K} (hR : ab_Cl (d + 46) (ab_Gam (d + 46)) (mCi i13038) i13038 0 (fun _ => 0) P X R) (h : ∀ G1, (o.2 = 0 ∨ o.2 = 1) → LRep G1 o.1 → P G1 (some (.int o.2))) {n28 : Nat} (ih28 : ∀ (l0 : Nat) (l1 : Nat) (l2 : Nat) (l3 : Nat) (l4 : Nat) (l5 : Int32) (l6 : Int32) (l7 : Int32) (l8 : Int32) (l9 : Int32) (w10 : Option Value) (w11 : Option Value) (S : Lx) (Ga : ab_G) (bc bs : Nat) (h2 : LRep Ga S) (ho : l_13038_L28 n28 l0 l1 l2 l3 l4 l5 l6 l7 l8 l9 bc bs S = some o), R 28 [some (.ref l0), some (.ref l1), some (.ref l2), some (.ref l3), some (.ref l4), some (.int l5), some (.int l6), some (.int l7), some (.int l8), some (.int l9), w10, w11, none] [] Ga bc bs) : ∀ (l0 : Nat) (l1 : Nat) (l2 : Nat) (l3 : Nat) (l4 : Nat) (l5 : Int32) (l6 : Int32) (l7 : Int32) (l8 : Int32) (l9 : Int32) (l10 : Int32) (w11 : Option Value) (S : Lx) (Ga : ab_G) (bc bs : Nat) (h2 : LRep Ga S) (ho : l_13038_J83 (l_13038_L28 n28) l0 l1 l2 l3 l4 l5 l6 l7 l8 l9 l10 bc bs S = some o), R 83 [some (.ref l0), some (.ref l1), some (.ref l2), some (.ref l3), some (.ref l4), some (.int l5), some (.int l6), some (.int l7), some (.int l8), some (.int l9), some (.int l10), w11, none] [] Ga bc bs := by
  have h13038_J84 := n13038_J84 hR h ih28
  intro l0 l1 l2 l3 l4 l5 l6 l7 l8 l9 l10 w11 S Ga bc bs h2 ho
  unfold l_13038_J83 at ho
  refine us_iconstC hR dL_isMarked_83 (c := 0) (by decide) ?_
  exact h13038_J84 l0 l1 l2 l3 l4 l5 l6 l7 l8 l9 l10 0 _ S Ga _ _ h2 ho
set_option maxHeartbeats 2000000 in
set_option maxRecDepth 8000 in
theorem n13038_L28 {d : Nat} {P : ab_Pq} {X : ab_Xq} {o : Lx × Int32} {R : ab_K} (hR : ab_Cl (d + 46) (ab_Gam (d + 46)) (mCi i13038) i13038 0 (fun _ => 0) P X R) (h : ∀ G1, (o.2 = 0 ∨ o.2 = 1) → LRep G1 o.1 → P G1 (some (.int o.2))) : ∀ (n : Nat) (l0 : Nat) (l1 : Nat) (l2 : Nat) (l3 : Nat) (l4 : Nat) (l5 : Int32) (l6 : Int32) (l7 : Int32) (l8 : Int32) (l9 : Int32) (w10 : Option Value) (w11 : Option Value) (S : Lx) (Ga : ab_G) (bc bs : Nat) (h2 : LRep Ga S) (ho : l_13038_L28 n l0 l1 l2 l3 l4 l5 l6 l7 l8 l9 bc bs S = some o), R 28 [some (.ref l0), some (.ref l1), some (.ref l2), some (.ref l3), some (.ref l4), some (.int l5), some (.int l6), some (.int l7), some (.int l8), some (.int l9), w10, w11, none] [] Ga bc bs := by
  have h13038_L166 := n13038_L166 hR h 
  intro n
  induction n with
  | zero => intro l0 l1 l2 l3 l4 l5 l6 l7 l8 l9 w10 w11 S Ga bc bs h2 ho; exact absurd ho (by rw [l_13038_L28]; intro hc; cases hc)
  | succ n28 ih28 =>
    have h13038_J84 := n13038_J84 hR h ih28
    have h13038_J83 := n13038_J83 hR h ih28
    intro l0 l1 l2 l3 l4 l5 l6 l7 l8 l9 w10 w11 S Ga bc bs h2 ho
    rw [l_13038_L28] at ho
    refine us_iload hR dL_isMarked_28 rfl ?_
    refine us_aload hR dL_isMarked_30 rfl ?_
    refine us_iconstC hR dL_isMarked_32 (c := 1) (by decide) ?_
    have hg := gd_c ho
    rw [gd_e hg] at ho
    refine ul_iaload h2 hg hR dL_isMarked_33 ?_
    refine us_icmp_ge hR dL_isMarked_34 163 (by decide) (fun c33 => ?_) (fun c33 => ?_)
    · rw [if_pos c33] at ho
      refine us_iconstC hR dL_isMarked_163 (c := 0) (by decide) ?_
      refine us_istore hR dL_isMarked_164 (Nat.le_of_ble_eq_true rfl) ?_
      exact h13038_L166 _ l0 l1 l2 l3 l4 l5 l6 l7 l8 0 _ _ _ S Ga _ _ h2 ho
    · rw [if_neg c33] at ho
      refine us_aload_n hR dL_isMarked_37 rfl ?_
      refine us_aload_n hR dL_isMarked_38 rfl ?_
      refine us_aload_n hR dL_isMarked_39 rfl ?_
      refine us_aload_n hR dL_isMarked_40 rfl ?_
      refine us_iload hR dL_isMarked_41 rfl ?_
      refine us_iconstC hR dL_isMarked_43 (c := 0) (by decide) ?_
      have hb := gd_c ho
      rw [gd_e hb] at ho
      refine us_callSc 18 108 hR dL_isMarked_44 (y := 13037) (by decide +kernel) (by decide) (J := i13037) rfl rfl rfl rfl (rest := _) (Nat.le_of_ble_eq_true rfl) rfl rfl hb.1 hb.2 ?_
      obtain ⟨r34, hr34⟩ := bP_ex ho
      replace ho := bP_go ho hr34
      refine sl_13037 h2 hr34 ?_
      refine us_istore hR dL_isMarked_47 (Nat.le_of_ble_eq_true rfl) ?_
      refine us_aload_n hR dL_isMarked_49 rfl ?_
      refine us_iload hR dL_isMarked_50 rfl ?_
      have hg := gd_c ho
      rw [gd_e hg] at ho
      have hme := hg
      have hb := gd_c ho
      rw [gd_e hb] at ho
      refine us_callSc 1 6 hR dL_isMarked_52 (y := 13018) (by decide +kernel) (by decide) (J := i13018) rfl rfl rfl rfl (rest := _) (Nat.le_of_ble_eq_true rfl) rfl rfl hb.1 hb.2 ?_
      obtain ⟨r35, hr35⟩ := bP_ex ho
      replace ho := bP_go ho hr35
      refine sh_13018 h2.1 hme hr35 ?_
      refine us_iload hR dL_isMarked_55 rfl ?_
      refine us_icmp_ne hR dL_isMarked_57 83 (by decide) (fun c36 => ?_) (fun c36 => ?_)
      · rw [if_neg c36] at ho
        exact h13038_J83 l0 l1 l2 l3 l4 l5 l6 l7 l8 l9 r34 _ S Ga _ _ h2 ho
      · rw [if_pos c36] at ho
        refine us_aload_n hR dL_isMarked_60 rfl ?_
        refine us_iload hR dL_isMarked_61 rfl ?_
        have hg := gd_c ho
        rw [gd_e hg] at ho
        have hme := hg
        have hb := gd_c ho
        rw [gd_e hb] at ho
        refine us_callSc 1 6 hR dL_isMarked_63 (y := 13017) (by decide +kernel) (by decide) (J := i13017) rfl rfl rfl rfl (rest := _) (Nat.le_of_ble_eq_true rfl) rfl rfl hb.1 hb.2 ?_
        obtain ⟨r37, hr37⟩ := bP_ex ho
        replace ho := bP_go ho hr37
        refine sh_13017 h2.1 hme hr37 ?_
        refine us_aload_n hR dL_isMarked_66 rfl ?_
        refine us_aload_n hR dL_isMarked_67 rfl ?_
        refine us_aload_n hR dL_isMarked_68 rfl ?_
        refine us_aload_n hR dL_isMarked_69 rfl ?_
        refine us_iload hR dL_isMarked_70 rfl ?_
        refine us_iconstC hR dL_isMarked_72 (c := 1) (by decide) ?_
        have hb := gd_c ho
        rw [gd_e hb] at ho
        refine us_callSc 18 108 hR dL_isMarked_73 (y := 13037) (by decide +kernel) (by decide) (J := i13037) rfl rfl rfl rfl (rest := _) (Nat.le_of_ble_eq_true rfl) rfl rfl hb.1 hb.2 ?_
        obtain ⟨r38, hr38⟩ := bP_ex ho
        replace ho := bP_go ho hr38
        refine sl_13037 h2 hr38 ?_
        refine us_icmp_ne hR dL_isMarked_76 83 (by decide) (fun c39 => ?_) (fun c39 => ?_)
        · rw [if_neg c39] at ho
          exact h13038_J83 l0 l1 l2 l3 l4 l5 l6 l7 l8 l9 r34 _ S Ga _ _ h2 ho
        · rw [if_pos c39] at ho
          refine us_iconstC hR dL_isMarked_79 (c := 1) (by decide) ?_
          refine us_goto hR dL_isMarked_80 84 (by decide) ?_
          exact h13038_J84 l0 l1 l2 l3 l4 l5 l6 l7 l8 l9 r34 1 _ S Ga _ _ h2 ho
set_option maxHeartbeats 2000000 in
set_option maxRecDepth 8000 in
theorem sl_13038 {d : Nat} {G : ab_G} {S : Lx} {P : ab_Pq} {X : ab_Xq} (h2 : LRep G S) {x0 : Nat} {x1 : Nat} {x2 : Nat} {x3 : Nat} {x4 : Nat} {x5 : Int32} {o : Lx × Int32} (ho : l_13038 x0 x1 x2 x3 x4 x5 S = some o) (h : ∀ G1, (o.2 = 0 ∨ o.2 = 1) → LRep G1 o.1 → P G1 (some (.int o.2))) : ab_Gam (d + 47) 13038 [.ref x0, .ref x1, .ref x2, .ref x3, .ref x4, .int x5] G P X := by
  unfold l_13038 at ho
  refine ab_enter (I := i13038) rfl (Nat.le_of_ble_eq_true rfl) (fun R hR => ?_)
  have h13038_L28 := n13038_L28 hR h 
  change R _ [some (.ref x0), some (.ref x1), some (.ref x2), some (.ref x3), some (.ref x4), some (.int x5), none, none, none, none, none, none, none] _ _ 3000 18000
  refine us_iload hR dL_isMarked_0 rfl ?_
  refine us_bipushC hR dL_isMarked_2 (c := 6) (by decide) ?_
  refine us_callS0 hR dL_isMarked_4 (y := 13001) (by decide +kernel) (by decide) (J := i13001) rfl rfl rfl rfl (rest := _) (Nat.le_of_ble_eq_true rfl) rfl rfl ?_
  obtain ⟨r40, hr40⟩ := bP_ex ho
  replace ho := bP_go ho hr40
  refine sh_13001 h2.1 hr40 ?_
  refine us_istore hR dL_isMarked_7 (Nat.le_of_ble_eq_true rfl) ?_
  refine us_iload hR dL_isMarked_9 rfl ?_
  refine us_iconstC hR dL_isMarked_11 (c := 3) (by decide) ?_
  refine us_ishr hR dL_isMarked_12 ?_
  refine us_aload hR dL_isMarked_13 rfl ?_
  refine us_iconstC hR dL_isMarked_15 (c := 0) (by decide) ?_
  have hg := gd_c ho
  rw [gd_e hg] at ho
  refine ul_iaload h2 hg hR dL_isMarked_16 ?_
  refine us_callS0 hR dL_isMarked_17 (y := 13001) (by decide +kernel) (by decide) (J := i13001) rfl rfl rfl rfl (rest := _) (Nat.le_of_ble_eq_true rfl) rfl rfl ?_
  obtain ⟨r41, hr41⟩ := bP_ex ho
  replace ho := bP_go ho hr41
  refine sh_13001 h2.1 hr41 ?_
  refine us_istore hR dL_isMarked_20 (Nat.le_of_ble_eq_true rfl) ?_
  change R _ [some (.ref x0), some (.ref x1), some (.ref x2), some (.ref x3), some (.ref x4), some (.int x5), some (.int r40), some (.int r41), none, none, none, none, none] _ _ 3000 18000
  refine us_iconstC hR dL_isMarked_22 (c := (-1)) (by decide) ?_
  refine us_istore hR dL_isMarked_23 (Nat.le_of_ble_eq_true rfl) ?_
  refine us_iconstC hR dL_isMarked_25 (c := 0) (by decide) ?_
  refine us_istore hR dL_isMarked_26 (Nat.le_of_ble_eq_true rfl) ?_
  exact h13038_L28 _ x0 x1 x2 x3 x4 x5 r40 r41 (-1) 0 _ _ S G _ _ h2 ho
end
