/-! the law's methods with a table -/
section LAW
theorem H_sch {F : Nat → Prop} {G : ab_G} {T : Tx} (h : Rep2 F G T) {a : Nat} (hk : tK T a = 12) : gK G a = 11 := by
  have := ((h.2.2.2.1 a).1 (by rw [hk]; exact ⟨by decide, by decide, by decide⟩)).1
  omega
theorem ex_nn {I : ab_Info} {k : ab_K} {X : ab_Xq} {pc : Nat} {L : List (Option Value)} {bc bs : Nat} {G : ab_G} {E : String} (h : Nat) {i : Fin 4} (h1 : ab_hnd (mXt I) pc E = some h) (h2 : decode (mCd I) h = .ok (.astore_n i, 1)) (hl : (i : Nat) < L.length) (hk : k (h + 1) (ab_kill L i) [] G bc bs) : ab_exc I k X pc L bc bs G E := by
  unfold ab_exc
  rw [h1]
  dsimp only
  rw [h2]
  exact ⟨hl, hk⟩
theorem ex_w {I : ab_Info} {k : ab_K} {X : ab_Xq} {pc : Nat} {L : List (Option Value)} {bc bs : Nat} {G : ab_G} {E : String} (h : Nat) {i : Nat} (h1 : ab_hnd (mXt I) pc E = some h) (h2 : decode (mCd I) h = .ok (.astore i, 2)) (hl : i < L.length) (hk : k (h + 2) (ab_kill L i) [] G bc bs) : ab_exc I k X pc L bc bs G E := by
  unfold ab_exc
  rw [h1]
  dsimp only
  rw [h2]
  exact ⟨hl, hk⟩
/-- what is foreign may change -/
theorem Rep2.fg {F : Nat → Prop} {G G' : ab_G} {T : Tx} (h : Rep2 F G T) (hz : gZ G' = gZ G) (hc : ∀ a, ¬ F a → cSame G G' a) : Rep2 F G' T := by
  obtain ⟨h1, h2, h3, h4, h5, h6⟩ := h
  refine ⟨hz.trans h1, h2, h3, fun a => ?_, fun a a' b k1 k2 e1 e2 => ?_, fun a a' e k1 k2 c1 c2 e1 e2 => ?_⟩
  · refine H_fr (h4 a) (Nat.le_refl _) h1 (hz.trans h1) rfl rfl rfl rfl rfl rfl (fun hk => hc a (h3 a hk).2.1) (fun b hk hb _ _ => ?_) (fun e hk he _ _ hC => ?_)
    · obtain ⟨b', g1, g2, g3, g4⟩ := (h4 a).2.1 hk
      have : b' = b := by
        have := g1.2.1.symm.trans hb
        injection this
      rw [← this]
      exact hc b' g3
    · exact hc e (((h4 a).2.2.1 hk).2 hC e he)
  · rw [(hc a (h3 a (by rw [k1]; decide)).2.1).2.2.2] at e1
    rw [(hc a' (h3 a' (by rw [k2]; decide)).2.1).2.2.2] at e2
    exact h5 a a' b k1 k2 e1 e2
  · rw [(hc a (h3 a (by rw [k1]; decide)).2.1).2.2.2] at e1
    rw [(hc a' (h3 a' (by rw [k2]; decide)).2.1).2.2.2] at e2
    exact h6 a a' e k1 k2 c1 c2 e1 e2
def tz (T : Tx) (n : Nat) : Tx := (tK T, tC T, tB T, tV T, tW T, tA T, n)
/-- new foreign cells -/
theorem Rep2.ad {F F' : Nat → Prop} {G G' : ab_G} {T : Tx} (h : Rep2 F G T) (hz : tZ T ≤ gZ G') (hc : ∀ a, a < tZ T → cSame G G' a) (hF : ∀ a, F' a → a < gZ G') (hF' : ∀ a, a < tZ T → F' a → F a) : Rep2 F' G' (tz T (gZ G')) := by
  obtain ⟨h1, h2, h3, h4, h5, h6⟩ := h
  refine ⟨rfl, hF, fun a hk => ⟨Nat.lt_of_lt_of_le (h3 a hk).1 hz, fun z => (h3 a hk).2.1 (hF' a (h3 a hk).1 z), (h3 a hk).2.2⟩, fun a => ?_, fun a a' b k1 k2 e1 e2 => ?_, fun a a' e k1 k2 c1 c2 e1 e2 => ?_⟩
  · have hq : H_cell F G' (tz T (gZ G')) a := H_fr (h4 a) hz h1 rfl rfl rfl rfl rfl rfl rfl (fun hk => hc a (h3 a hk).1) (fun b _ _ _ hb => hc b hb) (fun e _ _ _ he _ => hc e he)
    refine ⟨hq.1, fun hk => ?_, fun hk => ⟨(hq.2.2.1 hk).1, fun hC e he => ?_⟩, hq.2.2.2.1, hq.2.2.2.2⟩
    · obtain ⟨b, g1, g2, g3, g4⟩ := (h4 a).2.1 hk
      obtain ⟨b', k1, k2, k3, k4⟩ := hq.2.1 hk
      have hh := hc a (h3 a (by rw [show tK T a = 7 from hk]; decide)).1
      have : b' = b := by
        have := k1.2.1
        rw [hh.2.2.2, g1.2.1] at this
        injection this with this
        exact this.symm
      rw [this] at k1 k2 k3 k4
      exact ⟨b, k1, k2, fun z => g3 (hF' b g2 z), k4⟩
    · have ha := (h3 a (by rw [show tK T a = 1 from hk]; decide)).1
      have hh := hc a ha
      obtain ⟨q1, q2⟩ := (h4 a).2.2.1 hk
      rw [hh.2.2.2] at he
      have := q2 hC e he
      rcases q1.2.2 with ⟨_, y2, _⟩ | ⟨e', y1, y2, _⟩
      · exact absurd y2 hC
      · rw [he] at y1
        injection y1 with y1
        exact fun z => this (hF' e (by omega) z)
  · have a1 := (h3 a (by rw [show tK T a = 7 from k1]; decide)).1
    have a2 := (h3 a' (by rw [show tK T a' = 7 from k2]; decide)).1
    rw [(hc a a1).2.2.2] at e1
    rw [(hc a' a2).2.2.2] at e2
    exact h5 a a' b k1 k2 e1 e2
  · have a1 := (h3 a (by rw [show tK T a = 1 from k1]; decide)).1
    have a2 := (h3 a' (by rw [show tK T a' = 1 from k2]; decide)).1
    rw [(hc a a1).2.2.2] at e1
    rw [(hc a' a2).2.2.2] at e2
    exact h6 a a' e k1 k2 c1 c2 e1 e2
theorem cA_of {e : Nat} (h : cA e ≠ 0) : e = 1 ∨ e = 3 := by
  unfold cA at h
  by_cases h1 : e = 1
  · exact Or.inl h1
  · rw [if_neg h1] at h
    by_cases h3 : e = 3
    · exact Or.inr h3
    · rw [if_neg h3] at h; exact absurd rfl h
theorem cB_of {e : Nat} (h : cB e ≠ 0) : e = 2 ∨ e = 3 := by
  unfold cB at h
  by_cases h1 : e = 2
  · exact Or.inl h1
  · rw [if_neg h1] at h
    by_cases h3 : e = 3
    · exact Or.inr h3
    · rw [if_neg h3] at h; exact absurd rfl h
theorem cC_of {e : Nat} (h : cC e ≠ 0) : e = 2 ∨ e = 1 ∨ e = 3 := by
  unfold cC at h
  by_cases h1 : e = 2
  · exact Or.inl h1
  · rw [if_neg h1] at h
    by_cases h2 : e = 1
    · exact Or.inr (Or.inl h2)
    · rw [if_neg h2] at h
      by_cases h3 : e = 3
      · exact Or.inr (Or.inr h3)
      · rw [if_neg h3] at h; exact absurd rfl h
theorem cD_of {e : Nat} (h : cD e ≠ 0) : e = 2 := by
  unfold cD at h
  by_cases h1 : e = 2
  · exact h1
  · rw [if_neg h1] at h; exact absurd rfl h
theorem cE_of {e : Nat} (h : cE e ≠ 0) : e = 1 := by
  unfold cE at h
  by_cases h1 : e = 1
  · exact h1
  · rw [if_neg h1] at h; exact absurd rfl h
theorem cF_of {e : Nat} (h : cF e ≠ 0) : e = 3 := by
  unfold cF at h
  by_cases h1 : e = 3
  · exact h1
  · rw [if_neg h1] at h; exact absurd rfl h
theorem st_13000 {F : Nat → Prop} {d : Nat} {G : ab_G} {T : Tx} {P : ab_Pq} {X : ab_Xq} (h2 : Rep2 F G T) {me q : Nat} (hme : tK T me = 12) (hF : F q) (hk : gK G q = 17) (hn : gN G q = 1) {x0 : Int64} {o : Tx × (Nat ⊕ Int32)} (ho : h_11001 me x0 T = some o) (hc : ∀ e, o.2 = .inl e → cE e ≠ 0) (h : ∀ G1 v, o.2 = .inr v → Rep2 F G1 o.1 → SameF F G G1 → P (sJ G1 q 0 v.toInt64) (some (.int 0))) (hX : ∀ G1 e, o.2 = .inl e → Rep2 F G1 o.1 → SameF F G G1 → P G1 (some (.int (cE e)))) : ab_Gam (d + 11) 13000 [.ref me, .long x0, .ref q] G P X := by
  refine ab_enter (I := i13000) rfl (Nat.le_of_ble_eq_true rfl) (fun R hR => ?_)
  change R _ _ _ _ 500 10000
  refine us_aload_n hR dL_write_0 rfl ?_
  refine us_iconstC hR dL_write_1 (c := 0) (by decide) ?_
  refine us_aload_n hR dL_write_2 rfl ?_
  refine us_lload_n hR dL_write_3 rfl ?_
  refine us_callV hR dL_write_4 (y := 11001) (by decide +kernel) (by decide) (J := i11001) rfl rfl rfl rfl (H_sch h2 hme) rfl (Nat.le_of_ble_eq_true rfl) (Nat.le_of_ble_eq_true rfl) (Nat.le_of_ble_eq_true rfl) ?_
  refine sh_11001 h2 ho (fun G1 v hv r1 f1 => ?_) (fun G1 e he r1 f1 => ?_)
  · refine us_i2l hR dL_write_7 ?_
    refine us_lastore hR dL_write_8 (by rw [(f1 q hF).1]; exact hk) (by rw [(f1 q hF).2.1, hn]; exact vi_in ⟨by decide, by decide⟩) ?_
    refine us_goto hR dL_write_9 16 (by decide) ?_
    refine us_iconstC hR dL_write_16 (c := 0) (by decide) ?_
    exact us_iret hR dL_write_17 rfl rfl (h G1 v hv r1 f1)
  · obtain rfl := cE_of (hc e he)
    refine ex_w 12 (by decide +kernel) dL_write_12 (Nat.le_of_ble_eq_true rfl) ?_
    refine us_iconstC hR dL_write_14 (c := 1) (by decide) ?_
    exact us_iret hR dL_write_15 rfl rfl (hX G1 1 he r1 f1)
theorem st_13001 {F : Nat → Prop} {d : Nat} {G : ab_G} {T : Tx} {P : ab_Pq} {X : ab_Xq} (h2 : Rep2 F G T) {me q : Nat} (hme : tK T me = 12) (hF : F q) (hk : gK G q = 17) (hn : gN G q = 1) {x0 : Int32} {o : Tx × (Nat ⊕ Int32)} (ho : h_11003 me x0 T = some o) (hc : ∀ e, o.2 = .inl e → cE e ≠ 0) (h : ∀ G1 v, o.2 = .inr v → Rep2 F G1 o.1 → SameF F G G1 → P (sJ G1 q 0 v.toInt64) (some (.int 0))) (hX : ∀ G1 e, o.2 = .inl e → Rep2 F G1 o.1 → SameF F G G1 → P G1 (some (.int (cE e)))) : ab_Gam (d + 11) 13001 [.ref me, .int x0, .ref q] G P X := by
  refine ab_enter (I := i13001) rfl (Nat.le_of_ble_eq_true rfl) (fun R hR => ?_)
  change R _ _ _ _ 500 10000
  refine us_aload_n hR dL_erase_0 rfl ?_
  refine us_iconstC hR dL_erase_1 (c := 0) (by decide) ?_
  refine us_aload_n hR dL_erase_2 rfl ?_
  refine us_iload_n hR dL_erase_3 rfl ?_
  refine us_callV hR dL_erase_4 (y := 11003) (by decide +kernel) (by decide) (J := i11003) rfl rfl rfl rfl (H_sch h2 hme) rfl (Nat.le_of_ble_eq_true rfl) (Nat.le_of_ble_eq_true rfl) (Nat.le_of_ble_eq_true rfl) ?_
  refine sh_11003 h2 ho (fun G1 v hv r1 f1 => ?_) (fun G1 e he r1 f1 => ?_)
  · refine us_i2l hR dL_erase_7 ?_
    refine us_lastore hR dL_erase_8 (by rw [(f1 q hF).1]; exact hk) (by rw [(f1 q hF).2.1, hn]; exact vi_in ⟨by decide, by decide⟩) ?_
    refine us_goto hR dL_erase_9 15 (by decide) ?_
    refine us_iconstC hR dL_erase_15 (c := 0) (by decide) ?_
    exact us_iret hR dL_erase_16 rfl rfl (h G1 v hv r1 f1)
  · obtain rfl := cE_of (hc e he)
    refine ex_nn 12 (by decide +kernel) dL_erase_12 (Nat.le_of_ble_eq_true rfl) ?_
    refine us_iconstC hR dL_erase_13 (c := 1) (by decide) ?_
    exact us_iret hR dL_erase_14 rfl rfl (hX G1 1 he r1 f1)
theorem st_13002 {F : Nat → Prop} {d : Nat} {G : ab_G} {T : Tx} {P : ab_Pq} {X : ab_Xq} (h2 : Rep2 F G T) {me q : Nat} (hme : tK T me = 12) (hF : F q) (hk : gK G q = 17) (hn : gN G q = 1) {x0 : Int32} {o : (Nat ⊕ Int32)} (ho : h_11005 me x0 T = some o) (hc : ∀ e, o = .inl e → cD e ≠ 0) (h : ∀ v, o = .inr v → P (sJ G q 0 v.toInt64) (some (.int 0))) (hX : ∀ e, o = .inl e → P G (some (.int (cD e)))) : ab_Gam (d + 11) 13002 [.ref me, .int x0, .ref q] G P X := by
  refine ab_enter (I := i13002) rfl (Nat.le_of_ble_eq_true rfl) (fun R hR => ?_)
  change R _ _ _ _ 500 10000
  refine us_aload_n hR dL_signAt_0 rfl ?_
  refine us_iconstC hR dL_signAt_1 (c := 0) (by decide) ?_
  refine us_aload_n hR dL_signAt_2 rfl ?_
  refine us_iload_n hR dL_signAt_3 rfl ?_
  refine us_callV hR dL_signAt_4 (y := 11005) (by decide +kernel) (by decide) (J := i11005) rfl rfl rfl rfl (H_sch h2 hme) rfl (Nat.le_of_ble_eq_true rfl) (Nat.le_of_ble_eq_true rfl) (Nat.le_of_ble_eq_true rfl) ?_
  refine sh_11005 h2 ho (fun v hv => ?_) (fun e he => ?_)
  · refine us_i2l hR dL_signAt_7 ?_
    refine us_lastore hR dL_signAt_8 hk (by rw [hn]; exact vi_in ⟨by decide, by decide⟩) ?_
    refine us_goto hR dL_signAt_9 15 (by decide) ?_
    refine us_iconstC hR dL_signAt_15 (c := 0) (by decide) ?_
    exact us_iret hR dL_signAt_16 rfl rfl (h v hv)
  · obtain rfl := cD_of (hc e he)
    refine ex_nn 12 (by decide +kernel) dL_signAt_12 (Nat.le_of_ble_eq_true rfl) ?_
    refine us_iconstC hR dL_signAt_13 (c := 1) (by decide) ?_
    exact us_iret hR dL_signAt_14 rfl rfl (hX 2 he)
theorem st_13003 {F : Nat → Prop} {d : Nat} {G : ab_G} {T : Tx} {P : ab_Pq} {X : ab_Xq} (h2 : Rep2 F G T) {me q : Nat} (hme : tK T me = 12) (hF : F q) (hk : gK G q = 17) (hn : gN G q = 1)  {o : Tx × (Nat ⊕ Int32)} (ho : h_11008 me  T = some o) (hc : ∀ e, o.2 = .inl e → cF e ≠ 0) (h : ∀ G1 v, o.2 = .inr v → Rep2 F G1 o.1 → SameF F G G1 → P (sJ G1 q 0 v.toInt64) (some (.int 0))) (hX : ∀ G1 e, o.2 = .inl e → Rep2 F G1 o.1 → SameF F G G1 → P G1 (some (.int (cF e)))) : ab_Gam (d + 916) 13003 [.ref me, .ref q] G P X := by
  refine ab_enter (I := i13003) rfl (Nat.le_of_ble_eq_true rfl) (fun R hR => ?_)
  change R _ _ _ _ 500 10000
  refine us_aload_n hR dL_draftParts_0 rfl ?_
  refine us_iconstC hR dL_draftParts_1 (c := 0) (by decide) ?_
  refine us_aload_n hR dL_draftParts_2 rfl ?_
  refine us_callV hR dL_draftParts_3 (y := 11008) (by decide +kernel) (by decide) (J := i11008) rfl rfl rfl rfl (H_sch h2 hme) rfl (Nat.le_of_ble_eq_true rfl) (Nat.le_of_ble_eq_true rfl) (Nat.le_of_ble_eq_true rfl) ?_
  refine sh_11008 h2 ho (fun G1 v hv r1 f1 => ?_) (fun G1 e he r1 f1 => ?_)
  · refine us_i2l hR dL_draftParts_6 ?_
    refine us_lastore hR dL_draftParts_7 (by rw [(f1 q hF).1]; exact hk) (by rw [(f1 q hF).2.1, hn]; exact vi_in ⟨by decide, by decide⟩) ?_
    refine us_goto hR dL_draftParts_8 14 (by decide) ?_
    refine us_iconstC hR dL_draftParts_14 (c := 0) (by decide) ?_
    exact us_iret hR dL_draftParts_15 rfl rfl (h G1 v hv r1 f1)
  · obtain rfl := cF_of (hc e he)
    refine ex_nn 11 (by decide +kernel) dL_draftParts_11 (Nat.le_of_ble_eq_true rfl) ?_
    refine us_iconstC hR dL_draftParts_12 (c := 1) (by decide) ?_
    exact us_iret hR dL_draftParts_13 rfl rfl (hX G1 3 he r1 f1)
theorem st_13004 {F : Nat → Prop} {d : Nat} {G : ab_G} {T : Tx} {P : ab_Pq} {X : ab_Xq} (h2 : Rep2 F G T) {me q : Nat} (hme : tK T me = 12) (hF : F q) (hk : gK G q = 17) (hn : gN G q = 1) {x0 : Int32} {x1 : Int32} {x2 : Int32} {o : Tx × (Nat ⊕ Int32)} (ho : h_11009 me x0 x1 x2 T = some o) (hc : ∀ e, o.2 = .inl e → cA e ≠ 0) (h : ∀ G1 v, o.2 = .inr v → Rep2 F G1 o.1 → SameF F G G1 → P (sJ G1 q 0 v.toInt64) (some (.int 0))) (hX : ∀ G1 e, o.2 = .inl e → Rep2 F G1 o.1 → SameF F G G1 → P G1 (some (.int (cA e)))) : ab_Gam (d + 916) 13004 [.ref me, .int x0, .int x1, .int x2, .ref q] G P X := by
  refine ab_enter (I := i13004) rfl (Nat.le_of_ble_eq_true rfl) (fun R hR => ?_)
  change R _ _ _ _ 500 10000
  refine us_aload hR dL_trial_0 rfl ?_
  refine us_iconstC hR dL_trial_2 (c := 0) (by decide) ?_
  refine us_aload_n hR dL_trial_3 rfl ?_
  refine us_iload_n hR dL_trial_4 rfl ?_
  refine us_iload_n hR dL_trial_5 rfl ?_
  refine us_iload_n hR dL_trial_6 rfl ?_
  refine us_callV hR dL_trial_7 (y := 11009) (by decide +kernel) (by decide) (J := i11009) rfl rfl rfl rfl (H_sch h2 hme) rfl (Nat.le_of_ble_eq_true rfl) (Nat.le_of_ble_eq_true rfl) (Nat.le_of_ble_eq_true rfl) ?_
  refine sh_11009 h2 ho (fun G1 v hv r1 f1 => ?_) (fun G1 e he r1 f1 => ?_)
  · refine us_i2l hR dL_trial_10 ?_
    refine us_lastore hR dL_trial_11 (by rw [(f1 q hF).1]; exact hk) (by rw [(f1 q hF).2.1, hn]; exact vi_in ⟨by decide, by decide⟩) ?_
    refine us_goto hR dL_trial_12 23 (by decide) ?_
    refine us_iconstC hR dL_trial_23 (c := 0) (by decide) ?_
    exact us_iret hR dL_trial_24 rfl rfl (h G1 v hv r1 f1)
  · rcases cA_of (hc e he) with rfl | rfl
    · refine ex_w 15 (by decide +kernel) dL_trial_15 (Nat.le_of_ble_eq_true rfl) ?_
      refine us_iconstC hR dL_trial_17 (c := 1) (by decide) ?_
      exact us_iret hR dL_trial_18 rfl rfl (hX G1 1 he r1 f1)
    · refine ex_w 19 (by decide +kernel) dL_trial_19 (Nat.le_of_ble_eq_true rfl) ?_
      refine us_iconstC hR dL_trial_21 (c := 2) (by decide) ?_
      exact us_iret hR dL_trial_22 rfl rfl (hX G1 3 he r1 f1)
theorem st_13005 {F : Nat → Prop} {d : Nat} {G : ab_G} {T : Tx} {P : ab_Pq} {X : ab_Xq} (h2 : Rep2 F G T) {me q : Nat} (hme : tK T me = 12) (hF : F q) (hk : gK G q = 17) (hn : gN G q = 1) {x0 : Int32} {x1 : Int32} {x2 : Int32} {o : Tx × (Nat ⊕ Int32)} (ho : h_11010 me x0 x1 x2 T = some o) (hc : ∀ e, o.2 = .inl e → cA e ≠ 0) (h : ∀ G1 v, o.2 = .inr v → Rep2 F G1 o.1 → SameF F G G1 → P (sJ G1 q 0 v.toInt64) (some (.int 0))) (hX : ∀ G1 e, o.2 = .inl e → Rep2 F G1 o.1 → SameF F G G1 → P G1 (some (.int (cA e)))) : ab_Gam (d + 916) 13005 [.ref me, .int x0, .int x1, .int x2, .ref q] G P X := by
  refine ab_enter (I := i13005) rfl (Nat.le_of_ble_eq_true rfl) (fun R hR => ?_)
  change R _ _ _ _ 500 10000
  refine us_aload hR dL_trialByTree_0 rfl ?_
  refine us_iconstC hR dL_trialByTree_2 (c := 0) (by decide) ?_
  refine us_aload_n hR dL_trialByTree_3 rfl ?_
  refine us_iload_n hR dL_trialByTree_4 rfl ?_
  refine us_iload_n hR dL_trialByTree_5 rfl ?_
  refine us_iload_n hR dL_trialByTree_6 rfl ?_
  refine us_callV hR dL_trialByTree_7 (y := 11010) (by decide +kernel) (by decide) (J := i11010) rfl rfl rfl rfl (H_sch h2 hme) rfl (Nat.le_of_ble_eq_true rfl) (Nat.le_of_ble_eq_true rfl) (Nat.le_of_ble_eq_true rfl) ?_
  refine sh_11010 h2 ho (fun G1 v hv r1 f1 => ?_) (fun G1 e he r1 f1 => ?_)
  · refine us_i2l hR dL_trialByTree_10 ?_
    refine us_lastore hR dL_trialByTree_11 (by rw [(f1 q hF).1]; exact hk) (by rw [(f1 q hF).2.1, hn]; exact vi_in ⟨by decide, by decide⟩) ?_
    refine us_goto hR dL_trialByTree_12 23 (by decide) ?_
    refine us_iconstC hR dL_trialByTree_23 (c := 0) (by decide) ?_
    exact us_iret hR dL_trialByTree_24 rfl rfl (h G1 v hv r1 f1)
  · rcases cA_of (hc e he) with rfl | rfl
    · refine ex_w 15 (by decide +kernel) dL_trialByTree_15 (Nat.le_of_ble_eq_true rfl) ?_
      refine us_iconstC hR dL_trialByTree_17 (c := 1) (by decide) ?_
      exact us_iret hR dL_trialByTree_18 rfl rfl (hX G1 1 he r1 f1)
    · refine ex_w 19 (by decide +kernel) dL_trialByTree_19 (Nat.le_of_ble_eq_true rfl) ?_
      refine us_iconstC hR dL_trialByTree_21 (c := 2) (by decide) ?_
      exact us_iret hR dL_trialByTree_22 rfl rfl (hX G1 3 he r1 f1)
theorem st_13006 {F : Nat → Prop} {d : Nat} {G : ab_G} {T : Tx} {P : ab_Pq} {X : ab_Xq} (h2 : Rep2 F G T) {me q : Nat} (hme : tK T me = 12) (hF : F q) (hk : gK G q = 17) (hn : gN G q = 1) {x0 : Int32} {o : (Nat ⊕ Int32)} (ho : h_11012 me x0 T = some o) (hc : ∀ e, o = .inl e → cD e ≠ 0) (h : ∀ v, o = .inr v → P (sJ G q 0 v.toInt64) (some (.int 0))) (hX : ∀ e, o = .inl e → P G (some (.int (cD e)))) : ab_Gam (d + 11) 13006 [.ref me, .int x0, .ref q] G P X := by
  refine ab_enter (I := i13006) rfl (Nat.le_of_ble_eq_true rfl) (fun R hR => ?_)
  change R _ _ _ _ 500 10000
  refine us_aload_n hR dL_outputAt_0 rfl ?_
  refine us_iconstC hR dL_outputAt_1 (c := 0) (by decide) ?_
  refine us_aload_n hR dL_outputAt_2 rfl ?_
  refine us_iload_n hR dL_outputAt_3 rfl ?_
  refine us_callV hR dL_outputAt_4 (y := 11012) (by decide +kernel) (by decide) (J := i11012) rfl rfl rfl rfl (H_sch h2 hme) rfl (Nat.le_of_ble_eq_true rfl) (Nat.le_of_ble_eq_true rfl) (Nat.le_of_ble_eq_true rfl) ?_
  refine sh_11012 h2 ho (fun v hv => ?_) (fun e he => ?_)
  · refine us_i2l hR dL_outputAt_7 ?_
    refine us_lastore hR dL_outputAt_8 hk (by rw [hn]; exact vi_in ⟨by decide, by decide⟩) ?_
    refine us_goto hR dL_outputAt_9 15 (by decide) ?_
    refine us_iconstC hR dL_outputAt_15 (c := 0) (by decide) ?_
    exact us_iret hR dL_outputAt_16 rfl rfl (h v hv)
  · obtain rfl := cD_of (hc e he)
    refine ex_nn 12 (by decide +kernel) dL_outputAt_12 (Nat.le_of_ble_eq_true rfl) ?_
    refine us_iconstC hR dL_outputAt_13 (c := 1) (by decide) ?_
    exact us_iret hR dL_outputAt_14 rfl rfl (hX 2 he)
theorem st_13007 {F : Nat → Prop} {d : Nat} {G : ab_G} {T : Tx} {P : ab_Pq} {X : ab_Xq} (h2 : Rep2 F G T) {me q : Nat} (hme : tK T me = 12) (hF : F q) (hk : gK G q = 17) (hn : gN G q = 1) {x0 : Int32} {o : (Nat ⊕ Int32)} (ho : h_11014 me x0 T = some o) (hc : ∀ e, o = .inl e → cD e ≠ 0) (h : ∀ v, o = .inr v → P (sJ G q 0 v.toInt64) (some (.int 0))) (hX : ∀ e, o = .inl e → P G (some (.int (cD e)))) : ab_Gam (d + 11) 13007 [.ref me, .int x0, .ref q] G P X := by
  refine ab_enter (I := i13007) rfl (Nat.le_of_ble_eq_true rfl) (fun R hR => ?_)
  change R _ _ _ _ 500 10000
  refine us_aload_n hR dL_cellAt_0 rfl ?_
  refine us_iconstC hR dL_cellAt_1 (c := 0) (by decide) ?_
  refine us_aload_n hR dL_cellAt_2 rfl ?_
  refine us_iload_n hR dL_cellAt_3 rfl ?_
  refine us_callV hR dL_cellAt_4 (y := 11014) (by decide +kernel) (by decide) (J := i11014) rfl rfl rfl rfl (H_sch h2 hme) rfl (Nat.le_of_ble_eq_true rfl) (Nat.le_of_ble_eq_true rfl) (Nat.le_of_ble_eq_true rfl) ?_
  refine sh_11014 h2 ho (fun v hv => ?_) (fun e he => ?_)
  · refine us_i2l hR dL_cellAt_7 ?_
    refine us_lastore hR dL_cellAt_8 hk (by rw [hn]; exact vi_in ⟨by decide, by decide⟩) ?_
    refine us_goto hR dL_cellAt_9 15 (by decide) ?_
    refine us_iconstC hR dL_cellAt_15 (c := 0) (by decide) ?_
    exact us_iret hR dL_cellAt_16 rfl rfl (h v hv)
  · obtain rfl := cD_of (hc e he)
    refine ex_nn 12 (by decide +kernel) dL_cellAt_12 (Nat.le_of_ble_eq_true rfl) ?_
    refine us_iconstC hR dL_cellAt_13 (c := 1) (by decide) ?_
    exact us_iret hR dL_cellAt_14 rfl rfl (hX 2 he)
theorem st_13008 {F : Nat → Prop} {d : Nat} {G : ab_G} {T : Tx} {P : ab_Pq} {X : ab_Xq} (h2 : Rep2 F G T) {me q : Nat} (hme : tK T me = 12) (hF : F q) (hk : gK G q = 17) (hn : gN G q = 1) {x0 : Int32} {x1 : Int32} {o : Tx × (Nat ⊕ Int32)} (ho : h_11015 me x0 x1 T = some o) (hc : ∀ e, o.2 = .inl e → cA e ≠ 0) (h : ∀ G1 v, o.2 = .inr v → Rep2 F G1 o.1 → SameF F G G1 → P (sJ G1 q 0 v.toInt64) (some (.int 0))) (hX : ∀ G1 e, o.2 = .inl e → Rep2 F G1 o.1 → SameF F G G1 → P G1 (some (.int (cA e)))) : ab_Gam (d + 44) 13008 [.ref me, .int x0, .int x1, .ref q] G P X := by
  refine ab_enter (I := i13008) rfl (Nat.le_of_ble_eq_true rfl) (fun R hR => ?_)
  change R _ _ _ _ 500 10000
  refine us_aload_n hR dL_addExercise_0 rfl ?_
  refine us_iconstC hR dL_addExercise_1 (c := 0) (by decide) ?_
  refine us_aload_n hR dL_addExercise_2 rfl ?_
  refine us_iload_n hR dL_addExercise_3 rfl ?_
  refine us_iload_n hR dL_addExercise_4 rfl ?_
  refine us_callV hR dL_addExercise_5 (y := 11015) (by decide +kernel) (by decide) (J := i11015) rfl rfl rfl rfl (H_sch h2 hme) rfl (Nat.le_of_ble_eq_true rfl) (Nat.le_of_ble_eq_true rfl) (Nat.le_of_ble_eq_true rfl) ?_
  refine sh_11015 h2 ho (fun G1 v hv r1 f1 => ?_) (fun G1 e he r1 f1 => ?_)
  · refine us_i2l hR dL_addExercise_8 ?_
    refine us_lastore hR dL_addExercise_9 (by rw [(f1 q hF).1]; exact hk) (by rw [(f1 q hF).2.1, hn]; exact vi_in ⟨by decide, by decide⟩) ?_
    refine us_goto hR dL_addExercise_10 21 (by decide) ?_
    refine us_iconstC hR dL_addExercise_21 (c := 0) (by decide) ?_
    exact us_iret hR dL_addExercise_22 rfl rfl (h G1 v hv r1 f1)
  · rcases cA_of (hc e he) with rfl | rfl
    · refine ex_w 13 (by decide +kernel) dL_addExercise_13 (Nat.le_of_ble_eq_true rfl) ?_
      refine us_iconstC hR dL_addExercise_15 (c := 1) (by decide) ?_
      exact us_iret hR dL_addExercise_16 rfl rfl (hX G1 1 he r1 f1)
    · refine ex_w 17 (by decide +kernel) dL_addExercise_17 (Nat.le_of_ble_eq_true rfl) ?_
      refine us_iconstC hR dL_addExercise_19 (c := 2) (by decide) ?_
      exact us_iret hR dL_addExercise_20 rfl rfl (hX G1 3 he r1 f1)
theorem st_13009 {F : Nat → Prop} {d : Nat} {G : ab_G} {T : Tx} {P : ab_Pq} {X : ab_Xq} (h2 : Rep2 F G T) {me q : Nat} (hme : tK T me = 12) (hF : F q) (hk : gK G q = 17) (hn : gN G q = 1) {x0 : Int32} {x1 : Int32} {x2 : Int32} {x3 : Int32} {x4 : Int32} {x5 : Int32} {x6 : Int32} {o : Tx × (Nat ⊕ Int32)} (ho : h_11016 me x0 x1 x2 x3 x4 x5 x6 T = some o) (hc : ∀ e, o.2 = .inl e → cC e ≠ 0) (h : ∀ G1 v, o.2 = .inr v → Rep2 F G1 o.1 → SameF F G G1 → P (sJ G1 q 0 v.toInt64) (some (.int 0))) (hX : ∀ G1 e, o.2 = .inl e → Rep2 F G1 o.1 → SameF F G G1 → P G1 (some (.int (cC e)))) : ab_Gam (d + 44) 13009 [.ref me, .int x0, .int x1, .int x2, .int x3, .int x4, .int x5, .int x6, .ref q] G P X := by
  refine ab_enter (I := i13009) rfl (Nat.le_of_ble_eq_true rfl) (fun R hR => ?_)
  change R _ _ _ _ 500 10000
  refine us_aload hR dL_addTest_0 rfl ?_
  refine us_iconstC hR dL_addTest_2 (c := 0) (by decide) ?_
  refine us_aload_n hR dL_addTest_3 rfl ?_
  refine us_iload_n hR dL_addTest_4 rfl ?_
  refine us_iload_n hR dL_addTest_5 rfl ?_
  refine us_iload_n hR dL_addTest_6 rfl ?_
  refine us_iload hR dL_addTest_7 rfl ?_
  refine us_iload hR dL_addTest_9 rfl ?_
  refine us_iload hR dL_addTest_11 rfl ?_
  refine us_iload hR dL_addTest_13 rfl ?_
  refine us_callV hR dL_addTest_15 (y := 11016) (by decide +kernel) (by decide) (J := i11016) rfl rfl rfl rfl (H_sch h2 hme) rfl (Nat.le_of_ble_eq_true rfl) (Nat.le_of_ble_eq_true rfl) (Nat.le_of_ble_eq_true rfl) ?_
  refine sh_11016 h2 ho (fun G1 v hv r1 f1 => ?_) (fun G1 e he r1 f1 => ?_)
  · refine us_i2l hR dL_addTest_18 ?_
    refine us_lastore hR dL_addTest_19 (by rw [(f1 q hF).1]; exact hk) (by rw [(f1 q hF).2.1, hn]; exact vi_in ⟨by decide, by decide⟩) ?_
    refine us_goto hR dL_addTest_20 35 (by decide) ?_
    refine us_iconstC hR dL_addTest_35 (c := 0) (by decide) ?_
    exact us_iret hR dL_addTest_36 rfl rfl (h G1 v hv r1 f1)
  · rcases cC_of (hc e he) with rfl | rfl | rfl
    · refine ex_w 23 (by decide +kernel) dL_addTest_23 (Nat.le_of_ble_eq_true rfl) ?_
      refine us_iconstC hR dL_addTest_25 (c := 1) (by decide) ?_
      exact us_iret hR dL_addTest_26 rfl rfl (hX G1 2 he r1 f1)
    · refine ex_w 27 (by decide +kernel) dL_addTest_27 (Nat.le_of_ble_eq_true rfl) ?_
      refine us_iconstC hR dL_addTest_29 (c := 2) (by decide) ?_
      exact us_iret hR dL_addTest_30 rfl rfl (hX G1 1 he r1 f1)
    · refine ex_w 31 (by decide +kernel) dL_addTest_31 (Nat.le_of_ble_eq_true rfl) ?_
      refine us_iconstC hR dL_addTest_33 (c := 3) (by decide) ?_
      exact us_iret hR dL_addTest_34 rfl rfl (hX G1 3 he r1 f1)
theorem st_13010 {F : Nat → Prop} {d : Nat} {G : ab_G} {T : Tx} {P : ab_Pq} {X : ab_Xq} (h2 : Rep2 F G T) {me q : Nat} (hme : tK T me = 12) (hF : F q) (hk : gK G q = 17) (hn : gN G q = 1) {x0 : Int32} {x1 : Int32} {o : Tx × (Nat ⊕ Int32)} (ho : h_11017 me x0 x1 T = some o) (hc : ∀ e, o.2 = .inl e → cB e ≠ 0) (h : ∀ G1 v, o.2 = .inr v → Rep2 F G1 o.1 → SameF F G G1 → P (sJ G1 q 0 v.toInt64) (some (.int 0))) (hX : ∀ G1 e, o.2 = .inl e → Rep2 F G1 o.1 → SameF F G G1 → P G1 (some (.int (cB e)))) : ab_Gam (d + 46) 13010 [.ref me, .int x0, .int x1, .ref q] G P X := by
  refine ab_enter (I := i13010) rfl (Nat.le_of_ble_eq_true rfl) (fun R hR => ?_)
  change R _ _ _ _ 500 10000
  refine us_aload_n hR dL_withdraw_0 rfl ?_
  refine us_iconstC hR dL_withdraw_1 (c := 0) (by decide) ?_
  refine us_aload_n hR dL_withdraw_2 rfl ?_
  refine us_iload_n hR dL_withdraw_3 rfl ?_
  refine us_iload_n hR dL_withdraw_4 rfl ?_
  refine us_callV hR dL_withdraw_5 (y := 11017) (by decide +kernel) (by decide) (J := i11017) rfl rfl rfl rfl (H_sch h2 hme) rfl (Nat.le_of_ble_eq_true rfl) (Nat.le_of_ble_eq_true rfl) (Nat.le_of_ble_eq_true rfl) ?_
  refine sh_11017 h2 ho (fun G1 v hv r1 f1 => ?_) (fun G1 e he r1 f1 => ?_)
  · refine us_i2l hR dL_withdraw_8 ?_
    refine us_lastore hR dL_withdraw_9 (by rw [(f1 q hF).1]; exact hk) (by rw [(f1 q hF).2.1, hn]; exact vi_in ⟨by decide, by decide⟩) ?_
    refine us_goto hR dL_withdraw_10 21 (by decide) ?_
    refine us_iconstC hR dL_withdraw_21 (c := 0) (by decide) ?_
    exact us_iret hR dL_withdraw_22 rfl rfl (h G1 v hv r1 f1)
  · rcases cB_of (hc e he) with rfl | rfl
    · refine ex_w 13 (by decide +kernel) dL_withdraw_13 (Nat.le_of_ble_eq_true rfl) ?_
      refine us_iconstC hR dL_withdraw_15 (c := 1) (by decide) ?_
      exact us_iret hR dL_withdraw_16 rfl rfl (hX G1 2 he r1 f1)
    · refine ex_w 17 (by decide +kernel) dL_withdraw_17 (Nat.le_of_ble_eq_true rfl) ?_
      refine us_iconstC hR dL_withdraw_19 (c := 2) (by decide) ?_
      exact us_iret hR dL_withdraw_20 rfl rfl (hX G1 3 he r1 f1)
theorem st_13011 {F : Nat → Prop} {d : Nat} {G : ab_G} {T : Tx} {P : ab_Pq} {X : ab_Xq} (h2 : Rep2 F G T) {me q : Nat} (hme : tK T me = 12) (hF : F q) (hk : gK G q = 17) (hn : gN G q = 1) {x0 : Int32} {o : Tx × (Nat ⊕ Int32)} (ho : h_11018 me x0 T = some o) (hc : ∀ e, o.2 = .inl e → cA e ≠ 0) (h : ∀ G1 v, o.2 = .inr v → Rep2 F G1 o.1 → SameF F G G1 → P (sJ G1 q 0 v.toInt64) (some (.int 0))) (hX : ∀ G1 e, o.2 = .inl e → Rep2 F G1 o.1 → SameF F G G1 → P G1 (some (.int (cA e)))) : ab_Gam (d + 11) 13011 [.ref me, .int x0, .ref q] G P X := by
  refine ab_enter (I := i13011) rfl (Nat.le_of_ble_eq_true rfl) (fun R hR => ?_)
  change R _ _ _ _ 500 10000
  refine us_aload_n hR dL_pass_0 rfl ?_
  refine us_iconstC hR dL_pass_1 (c := 0) (by decide) ?_
  refine us_aload_n hR dL_pass_2 rfl ?_
  refine us_iload_n hR dL_pass_3 rfl ?_
  refine us_callV hR dL_pass_4 (y := 11018) (by decide +kernel) (by decide) (J := i11018) rfl rfl rfl rfl (H_sch h2 hme) rfl (Nat.le_of_ble_eq_true rfl) (Nat.le_of_ble_eq_true rfl) (Nat.le_of_ble_eq_true rfl) ?_
  refine sh_11018 h2 ho (fun G1 v hv r1 f1 => ?_) (fun G1 e he r1 f1 => ?_)
  · refine us_i2l hR dL_pass_7 ?_
    refine us_lastore hR dL_pass_8 (by rw [(f1 q hF).1]; exact hk) (by rw [(f1 q hF).2.1, hn]; exact vi_in ⟨by decide, by decide⟩) ?_
    refine us_goto hR dL_pass_9 18 (by decide) ?_
    refine us_iconstC hR dL_pass_18 (c := 0) (by decide) ?_
    exact us_iret hR dL_pass_19 rfl rfl (h G1 v hv r1 f1)
  · rcases cA_of (hc e he) with rfl | rfl
    · refine ex_nn 12 (by decide +kernel) dL_pass_12 (Nat.le_of_ble_eq_true rfl) ?_
      refine us_iconstC hR dL_pass_13 (c := 1) (by decide) ?_
      exact us_iret hR dL_pass_14 rfl rfl (hX G1 1 he r1 f1)
    · refine ex_nn 15 (by decide +kernel) dL_pass_15 (Nat.le_of_ble_eq_true rfl) ?_
      refine us_iconstC hR dL_pass_16 (c := 2) (by decide) ?_
      exact us_iret hR dL_pass_17 rfl rfl (hX G1 3 he r1 f1)
theorem st_13012 {F : Nat → Prop} {d : Nat} {G : ab_G} {T : Tx} {P : ab_Pq} {X : ab_Xq} (h2 : Rep2 F G T) {me q : Nat} (hme : tK T me = 12) (hF : F q) (hk : gK G q = 17) (hn : gN G q = 1) {x0 : Int32} {x1 : Int32} {o : Tx × (Nat ⊕ Int32)} (ho : h_11020 me x0 x1 T = some o) (hc : ∀ e, o.2 = .inl e → cB e ≠ 0) (h : ∀ G1 v, o.2 = .inr v → Rep2 F G1 o.1 → SameF F G G1 → P (sJ G1 q 0 v.toInt64) (some (.int 0))) (hX : ∀ G1 e, o.2 = .inl e → Rep2 F G1 o.1 → SameF F G G1 → P G1 (some (.int (cB e)))) : ab_Gam (d + 916) 13012 [.ref me, .int x0, .int x1, .ref q] G P X := by
  refine ab_enter (I := i13012) rfl (Nat.le_of_ble_eq_true rfl) (fun R hR => ?_)
  change R _ _ _ _ 500 10000
  refine us_aload_n hR dL_hand_0 rfl ?_
  refine us_iconstC hR dL_hand_1 (c := 0) (by decide) ?_
  refine us_aload_n hR dL_hand_2 rfl ?_
  refine us_iload_n hR dL_hand_3 rfl ?_
  refine us_iload_n hR dL_hand_4 rfl ?_
  refine us_callV hR dL_hand_5 (y := 11020) (by decide +kernel) (by decide) (J := i11020) rfl rfl rfl rfl (H_sch h2 hme) rfl (Nat.le_of_ble_eq_true rfl) (Nat.le_of_ble_eq_true rfl) (Nat.le_of_ble_eq_true rfl) ?_
  refine sh_11020 h2 ho (fun G1 v hv r1 f1 => ?_) (fun G1 e he r1 f1 => ?_)
  · refine us_i2l hR dL_hand_8 ?_
    refine us_lastore hR dL_hand_9 (by rw [(f1 q hF).1]; exact hk) (by rw [(f1 q hF).2.1, hn]; exact vi_in ⟨by decide, by decide⟩) ?_
    refine us_goto hR dL_hand_10 21 (by decide) ?_
    refine us_iconstC hR dL_hand_21 (c := 0) (by decide) ?_
    exact us_iret hR dL_hand_22 rfl rfl (h G1 v hv r1 f1)
  · rcases cB_of (hc e he) with rfl | rfl
    · refine ex_w 13 (by decide +kernel) dL_hand_13 (Nat.le_of_ble_eq_true rfl) ?_
      refine us_iconstC hR dL_hand_15 (c := 1) (by decide) ?_
      exact us_iret hR dL_hand_16 rfl rfl (hX G1 2 he r1 f1)
    · refine ex_w 17 (by decide +kernel) dL_hand_17 (Nat.le_of_ble_eq_true rfl) ?_
      refine us_iconstC hR dL_hand_19 (c := 2) (by decide) ?_
      exact us_iret hR dL_hand_20 rfl rfl (hX G1 3 he r1 f1)
theorem st_13013 {F : Nat → Prop} {d : Nat} {G : ab_G} {T : Tx} {P : ab_Pq} {X : ab_Xq} (h2 : Rep2 F G T) {me q : Nat} (hme : tK T me = 12) (hF : F q) (hk : gK G q = 17) (hn : gN G q = 1) {x0 : Int32} {x1 : Int32} {o : (Nat ⊕ Int32)} (ho : h_11022 me x0 x1 T = some o) (hc : ∀ e, o = .inl e → cD e ≠ 0) (hb : ∀ v, o = .inr v → v = 0 ∨ v = 1) (h : ∀ v, o = .inr v → P (sJ G q 0 v.toInt64) (some (.int 0))) (hX : ∀ e, o = .inl e → P G (some (.int (cD e)))) : ab_Gam (d + 45) 13013 [.ref me, .int x0, .int x1, .ref q] G P X := by
  refine ab_enter (I := i13013) rfl (Nat.le_of_ble_eq_true rfl) (fun R hR => ?_)
  change R _ _ _ _ 500 10000
  refine us_aload_n hR dL_passes_0 rfl ?_
  refine us_iconstC hR dL_passes_1 (c := 0) (by decide) ?_
  refine us_aload_n hR dL_passes_2 rfl ?_
  refine us_iload_n hR dL_passes_3 rfl ?_
  refine us_iload_n hR dL_passes_4 rfl ?_
  refine us_callV hR dL_passes_5 (y := 11022) (by decide +kernel) (by decide) (J := i11022) rfl rfl rfl rfl (H_sch h2 hme) rfl (Nat.le_of_ble_eq_true rfl) (Nat.le_of_ble_eq_true rfl) (Nat.le_of_ble_eq_true rfl) ?_
  refine sh_11022 h2 ho (fun v hv => ?_) (fun e he => ?_)
  · refine us_if_eq hR dL_passes_8 15 (by decide) (fun c => ?_) (fun c => ?_)
    · refine us_lconstC hR dL_passes_15 (c := 0) (by decide) ?_
      have fin := h v hv
      rw [c] at fin
      refine us_lastore hR dL_passes_16 hk (by rw [hn]; exact vi_in ⟨by decide, by decide⟩) ?_
      refine us_goto hR dL_passes_17 24 (by decide) ?_
      refine us_iconstC hR dL_passes_24 (c := 0) (by decide) ?_
      exact us_iret hR dL_passes_25 rfl rfl fin
    · refine us_lconstC hR dL_passes_11 (c := 1) (by decide) ?_
      refine us_goto hR dL_passes_12 16 (by decide) ?_
      have fin := h v hv
      rw [(hb v hv).resolve_left c] at fin
      refine us_lastore hR dL_passes_16 hk (by rw [hn]; exact vi_in ⟨by decide, by decide⟩) ?_
      refine us_goto hR dL_passes_17 24 (by decide) ?_
      refine us_iconstC hR dL_passes_24 (c := 0) (by decide) ?_
      exact us_iret hR dL_passes_25 rfl rfl fin
  · obtain rfl := cD_of (hc e he)
    refine ex_w 20 (by decide +kernel) dL_passes_20 (Nat.le_of_ble_eq_true rfl) ?_
    refine us_iconstC hR dL_passes_22 (c := 1) (by decide) ?_
    exact us_iret hR dL_passes_23 rfl rfl (hX 2 he)
theorem st_13014 {F : Nat → Prop} {d : Nat} {G : ab_G} {T : Tx} {P : ab_Pq} {X : ab_Xq} (h2 : Rep2 F G T) {me q : Nat} (hme : tK T me = 12) (hF : F q) (hk : gK G q = 17) (hn : gN G q = 1) {x0 : Int32} {x1 : Int32} {o : (Nat ⊕ Int32)} (ho : h_11023 me x0 x1 T = some o) (hc : ∀ e, o = .inl e → cD e ≠ 0) (h : ∀ v, o = .inr v → P (sJ G q 0 v.toInt64) (some (.int 0))) (hX : ∀ e, o = .inl e → P G (some (.int (cD e)))) : ab_Gam (d + 45) 13014 [.ref me, .int x0, .int x1, .ref q] G P X := by
  refine ab_enter (I := i13014) rfl (Nat.le_of_ble_eq_true rfl) (fun R hR => ?_)
  change R _ _ _ _ 500 10000
  refine us_aload_n hR dL_endOf_0 rfl ?_
  refine us_iconstC hR dL_endOf_1 (c := 0) (by decide) ?_
  refine us_aload_n hR dL_endOf_2 rfl ?_
  refine us_iload_n hR dL_endOf_3 rfl ?_
  refine us_iload_n hR dL_endOf_4 rfl ?_
  refine us_callV hR dL_endOf_5 (y := 11023) (by decide +kernel) (by decide) (J := i11023) rfl rfl rfl rfl (H_sch h2 hme) rfl (Nat.le_of_ble_eq_true rfl) (Nat.le_of_ble_eq_true rfl) (Nat.le_of_ble_eq_true rfl) ?_
  refine sh_11023 h2 ho (fun v hv => ?_) (fun e he => ?_)
  · refine us_i2l hR dL_endOf_8 ?_
    refine us_lastore hR dL_endOf_9 hk (by rw [hn]; exact vi_in ⟨by decide, by decide⟩) ?_
    refine us_goto hR dL_endOf_10 17 (by decide) ?_
    refine us_iconstC hR dL_endOf_17 (c := 0) (by decide) ?_
    exact us_iret hR dL_endOf_18 rfl rfl (h v hv)
  · obtain rfl := cD_of (hc e he)
    refine ex_w 13 (by decide +kernel) dL_endOf_13 (Nat.le_of_ble_eq_true rfl) ?_
    refine us_iconstC hR dL_endOf_15 (c := 1) (by decide) ?_
    exact us_iret hR dL_endOf_16 rfl rfl (hX 2 he)
theorem st_13015 {F : Nat → Prop} {d : Nat} {G : ab_G} {T : Tx} {P : ab_Pq} {X : ab_Xq} (h2 : Rep2 F G T) {me q : Nat} (hme : tK T me = 12) (hF : F q) (hk : gK G q = 17) (hn : gN G q = 1) {x0 : Int32} {o : (Nat ⊕ Int32)} (ho : h_11024 me x0 T = some o) (hc : ∀ e, o = .inl e → cD e ≠ 0) (h : ∀ v, o = .inr v → P (sJ G q 0 v.toInt64) (some (.int 0))) (hX : ∀ e, o = .inl e → P G (some (.int (cD e)))) : ab_Gam (d + 44) 13015 [.ref me, .int x0, .ref q] G P X := by
  refine ab_enter (I := i13015) rfl (Nat.le_of_ble_eq_true rfl) (fun R hR => ?_)
  change R _ _ _ _ 500 10000
  refine us_aload_n hR dL_points_0 rfl ?_
  refine us_iconstC hR dL_points_1 (c := 0) (by decide) ?_
  refine us_aload_n hR dL_points_2 rfl ?_
  refine us_iload_n hR dL_points_3 rfl ?_
  refine us_callV hR dL_points_4 (y := 11024) (by decide +kernel) (by decide) (J := i11024) rfl rfl rfl rfl (H_sch h2 hme) rfl (Nat.le_of_ble_eq_true rfl) (Nat.le_of_ble_eq_true rfl) (Nat.le_of_ble_eq_true rfl) ?_
  refine sh_11024 h2 ho (fun v hv => ?_) (fun e he => ?_)
  · refine us_i2l hR dL_points_7 ?_
    refine us_lastore hR dL_points_8 hk (by rw [hn]; exact vi_in ⟨by decide, by decide⟩) ?_
    refine us_goto hR dL_points_9 15 (by decide) ?_
    refine us_iconstC hR dL_points_15 (c := 0) (by decide) ?_
    exact us_iret hR dL_points_16 rfl rfl (h v hv)
  · obtain rfl := cD_of (hc e he)
    refine ex_nn 12 (by decide +kernel) dL_points_12 (Nat.le_of_ble_eq_true rfl) ?_
    refine us_iconstC hR dL_points_13 (c := 1) (by decide) ?_
    exact us_iret hR dL_points_14 rfl rfl (hX 2 he)
theorem st_13016 {F : Nat → Prop} {d : Nat} {G : ab_G} {T : Tx} {P : ab_Pq} {X : ab_Xq} (h2 : Rep2 F G T) {me q : Nat} (hme : tK T me = 12) (hF : F q) (hk : gK G q = 17) (hn : gN G q = 1) {x0 : Int32} {o : (Nat ⊕ Int32)} (ho : h_11025 me x0 T = some o) (hc : ∀ e, o = .inl e → cD e ≠ 0) (h : ∀ v, o = .inr v → P (sJ G q 0 v.toInt64) (some (.int 0))) (hX : ∀ e, o = .inl e → P G (some (.int (cD e)))) : ab_Gam (d + 45) 13016 [.ref me, .int x0, .ref q] G P X := by
  refine ab_enter (I := i13016) rfl (Nat.le_of_ble_eq_true rfl) (fun R hR => ?_)
  change R _ _ _ _ 500 10000
  refine us_aload_n hR dL_mark_0 rfl ?_
  refine us_iconstC hR dL_mark_1 (c := 0) (by decide) ?_
  refine us_aload_n hR dL_mark_2 rfl ?_
  refine us_iload_n hR dL_mark_3 rfl ?_
  refine us_callV hR dL_mark_4 (y := 11025) (by decide +kernel) (by decide) (J := i11025) rfl rfl rfl rfl (H_sch h2 hme) rfl (Nat.le_of_ble_eq_true rfl) (Nat.le_of_ble_eq_true rfl) (Nat.le_of_ble_eq_true rfl) ?_
  refine sh_11025 h2 ho (fun v hv => ?_) (fun e he => ?_)
  · refine us_i2l hR dL_mark_7 ?_
    refine us_lastore hR dL_mark_8 hk (by rw [hn]; exact vi_in ⟨by decide, by decide⟩) ?_
    refine us_goto hR dL_mark_9 15 (by decide) ?_
    refine us_iconstC hR dL_mark_15 (c := 0) (by decide) ?_
    exact us_iret hR dL_mark_16 rfl rfl (h v hv)
  · obtain rfl := cD_of (hc e he)
    refine ex_nn 12 (by decide +kernel) dL_mark_12 (Nat.le_of_ble_eq_true rfl) ?_
    refine us_iconstC hR dL_mark_13 (c := 1) (by decide) ?_
    exact us_iret hR dL_mark_14 rfl rfl (hX 2 he)
theorem st_13017 {F : Nat → Prop} {d : Nat} {G : ab_G} {T : Tx} {P : ab_Pq} {X : ab_Xq} (h2 : Rep2 F G T) {me q : Nat} (hme : tK T me = 12) (hF : F q) (hk : gK G q = 17) (hn : gN G q = 1) {x0 : Int32} {o : Tx × (Nat ⊕ Int32)} (ho : h_11026 me x0 T = some o) (hc : ∀ e, o.2 = .inl e → cD e ≠ 0) (h : ∀ G1 v, o.2 = .inr v → Rep2 F G1 o.1 → SameF F G G1 → P (sJ G1 q 0 v.toInt64) (some (.int 0))) (hX : ∀ G1 e, o.2 = .inl e → Rep2 F G1 o.1 → SameF F G G1 → P G1 (some (.int (cD e)))) : ab_Gam (d + 45) 13017 [.ref me, .int x0, .ref q] G P X := by
  refine ab_enter (I := i13017) rfl (Nat.le_of_ble_eq_true rfl) (fun R hR => ?_)
  change R _ _ _ _ 500 10000
  refine us_aload_n hR dL_markAnew_0 rfl ?_
  refine us_iconstC hR dL_markAnew_1 (c := 0) (by decide) ?_
  refine us_aload_n hR dL_markAnew_2 rfl ?_
  refine us_iload_n hR dL_markAnew_3 rfl ?_
  refine us_callV hR dL_markAnew_4 (y := 11026) (by decide +kernel) (by decide) (J := i11026) rfl rfl rfl rfl (H_sch h2 hme) rfl (Nat.le_of_ble_eq_true rfl) (Nat.le_of_ble_eq_true rfl) (Nat.le_of_ble_eq_true rfl) ?_
  refine sh_11026 h2 ho (fun G1 v hv r1 f1 => ?_) (fun G1 e he r1 f1 => ?_)
  · refine us_i2l hR dL_markAnew_7 ?_
    refine us_lastore hR dL_markAnew_8 (by rw [(f1 q hF).1]; exact hk) (by rw [(f1 q hF).2.1, hn]; exact vi_in ⟨by decide, by decide⟩) ?_
    refine us_goto hR dL_markAnew_9 15 (by decide) ?_
    refine us_iconstC hR dL_markAnew_15 (c := 0) (by decide) ?_
    exact us_iret hR dL_markAnew_16 rfl rfl (h G1 v hv r1 f1)
  · obtain rfl := cD_of (hc e he)
    refine ex_nn 12 (by decide +kernel) dL_markAnew_12 (Nat.le_of_ble_eq_true rfl) ?_
    refine us_iconstC hR dL_markAnew_13 (c := 1) (by decide) ?_
    exact us_iret hR dL_markAnew_14 rfl rfl (hX G1 2 he r1 f1)
theorem st_13018 {F : Nat → Prop} {d : Nat} {G : ab_G} {T : Tx} {P : ab_Pq} {X : ab_Xq} (h2 : Rep2 F G T) {me q : Nat} (hme : tK T me = 12) (hF : F q) (hk : gK G q = 17) (hn : gN G q = 1) {x0 : Int32} {x1 : Int32} {o : (Nat ⊕ Int32)} (ho : h_11027 me x0 x1 T = some o) (hc : ∀ e, o = .inl e → cD e ≠ 0) (h : ∀ v, o = .inr v → P (sJ G q 0 v.toInt64) (some (.int 0))) (hX : ∀ e, o = .inl e → P G (some (.int (cD e)))) : ab_Gam (d + 45) 13018 [.ref me, .int x0, .int x1, .ref q] G P X := by
  refine ab_enter (I := i13018) rfl (Nat.le_of_ble_eq_true rfl) (fun R hR => ?_)
  change R _ _ _ _ 500 10000
  refine us_aload_n hR dL_best_0 rfl ?_
  refine us_iconstC hR dL_best_1 (c := 0) (by decide) ?_
  refine us_aload_n hR dL_best_2 rfl ?_
  refine us_iload_n hR dL_best_3 rfl ?_
  refine us_iload_n hR dL_best_4 rfl ?_
  refine us_callV hR dL_best_5 (y := 11027) (by decide +kernel) (by decide) (J := i11027) rfl rfl rfl rfl (H_sch h2 hme) rfl (Nat.le_of_ble_eq_true rfl) (Nat.le_of_ble_eq_true rfl) (Nat.le_of_ble_eq_true rfl) ?_
  refine sh_11027 h2 ho (fun v hv => ?_) (fun e he => ?_)
  · refine us_i2l hR dL_best_8 ?_
    refine us_lastore hR dL_best_9 hk (by rw [hn]; exact vi_in ⟨by decide, by decide⟩) ?_
    refine us_goto hR dL_best_10 17 (by decide) ?_
    refine us_iconstC hR dL_best_17 (c := 0) (by decide) ?_
    exact us_iret hR dL_best_18 rfl rfl (h v hv)
  · obtain rfl := cD_of (hc e he)
    refine ex_w 13 (by decide +kernel) dL_best_13 (Nat.le_of_ble_eq_true rfl) ?_
    refine us_iconstC hR dL_best_15 (c := 1) (by decide) ?_
    exact us_iret hR dL_best_16 rfl rfl (hX 2 he)
theorem st_13019 {F : Nat → Prop} {d : Nat} {G : ab_G} {T : Tx} {P : ab_Pq} {X : ab_Xq} (h2 : Rep2 F G T) {me q : Nat} (hme : tK T me = 12) (hF : F q) (hk : gK G q = 17) (hn : gN G q = 1) {x0 : Int32} {x1 : Int32} {o : (Nat ⊕ Int32)} (ho : h_11028 me x0 x1 T = some o) (hc : ∀ e, o = .inl e → cD e ≠ 0) (h : ∀ v, o = .inr v → P (sJ G q 0 v.toInt64) (some (.int 0))) (hX : ∀ e, o = .inl e → P G (some (.int (cD e)))) : ab_Gam (d + 45) 13019 [.ref me, .int x0, .int x1, .ref q] G P X := by
  refine ab_enter (I := i13019) rfl (Nat.le_of_ble_eq_true rfl) (fun R hR => ?_)
  change R _ _ _ _ 500 10000
  refine us_aload_n hR dL_passed_0 rfl ?_
  refine us_iconstC hR dL_passed_1 (c := 0) (by decide) ?_
  refine us_aload_n hR dL_passed_2 rfl ?_
  refine us_iload_n hR dL_passed_3 rfl ?_
  refine us_iload_n hR dL_passed_4 rfl ?_
  refine us_callV hR dL_passed_5 (y := 11028) (by decide +kernel) (by decide) (J := i11028) rfl rfl rfl rfl (H_sch h2 hme) rfl (Nat.le_of_ble_eq_true rfl) (Nat.le_of_ble_eq_true rfl) (Nat.le_of_ble_eq_true rfl) ?_
  refine sh_11028 h2 ho (fun v hv => ?_) (fun e he => ?_)
  · refine us_i2l hR dL_passed_8 ?_
    refine us_lastore hR dL_passed_9 hk (by rw [hn]; exact vi_in ⟨by decide, by decide⟩) ?_
    refine us_goto hR dL_passed_10 17 (by decide) ?_
    refine us_iconstC hR dL_passed_17 (c := 0) (by decide) ?_
    exact us_iret hR dL_passed_18 rfl rfl (h v hv)
  · obtain rfl := cD_of (hc e he)
    refine ex_w 13 (by decide +kernel) dL_passed_13 (Nat.le_of_ble_eq_true rfl) ?_
    refine us_iconstC hR dL_passed_15 (c := 1) (by decide) ?_
    exact us_iret hR dL_passed_16 rfl rfl (hX 2 he)
theorem st_13020 {F : Nat → Prop} {d : Nat} {G : ab_G} {T : Tx} {P : ab_Pq} {X : ab_Xq} (h2 : Rep2 F G T) {me q : Nat} (hme : tK T me = 12) (hF : F q) (hk : gK G q = 17) (hn : gN G q = 1) {x0 : Int32} {o : (Nat ⊕ Int32)} (ho : h_11029 me x0 T = some o) (hc : ∀ e, o = .inl e → cD e ≠ 0) (h : ∀ v, o = .inr v → P (sJ G q 0 v.toInt64) (some (.int 0))) (hX : ∀ e, o = .inl e → P G (some (.int (cD e)))) : ab_Gam (d + 44) 13020 [.ref me, .int x0, .ref q] G P X := by
  refine ab_enter (I := i13020) rfl (Nat.le_of_ble_eq_true rfl) (fun R hR => ?_)
  change R _ _ _ _ 500 10000
  refine us_aload_n hR dL_parts_0 rfl ?_
  refine us_iconstC hR dL_parts_1 (c := 0) (by decide) ?_
  refine us_aload_n hR dL_parts_2 rfl ?_
  refine us_iload_n hR dL_parts_3 rfl ?_
  refine us_callV hR dL_parts_4 (y := 11029) (by decide +kernel) (by decide) (J := i11029) rfl rfl rfl rfl (H_sch h2 hme) rfl (Nat.le_of_ble_eq_true rfl) (Nat.le_of_ble_eq_true rfl) (Nat.le_of_ble_eq_true rfl) ?_
  refine sh_11029 h2 ho (fun v hv => ?_) (fun e he => ?_)
  · refine us_i2l hR dL_parts_7 ?_
    refine us_lastore hR dL_parts_8 hk (by rw [hn]; exact vi_in ⟨by decide, by decide⟩) ?_
    refine us_goto hR dL_parts_9 15 (by decide) ?_
    refine us_iconstC hR dL_parts_15 (c := 0) (by decide) ?_
    exact us_iret hR dL_parts_16 rfl rfl (h v hv)
  · obtain rfl := cD_of (hc e he)
    refine ex_nn 12 (by decide +kernel) dL_parts_12 (Nat.le_of_ble_eq_true rfl) ?_
    refine us_iconstC hR dL_parts_13 (c := 1) (by decide) ?_
    exact us_iret hR dL_parts_14 rfl rfl (hX 2 he)
theorem st_13021 {F : Nat → Prop} {d : Nat} {G : ab_G} {T : Tx} {P : ab_Pq} {X : ab_Xq} (h2 : Rep2 F G T) {me q : Nat} (hme : tK T me = 12) (hF : F q) (hk : gK G q = 17) (hn : gN G q = 1) {x0 : Int32} {x1 : Int32} {o : (Nat ⊕ Int32)} (ho : h_11030 me x0 x1 T = some o) (hc : ∀ e, o = .inl e → cD e ≠ 0) (h : ∀ v, o = .inr v → P (sJ G q 0 v.toInt64) (some (.int 0))) (hX : ∀ e, o = .inl e → P G (some (.int (cD e)))) : ab_Gam (d + 45) 13021 [.ref me, .int x0, .int x1, .ref q] G P X := by
  refine ab_enter (I := i13021) rfl (Nat.le_of_ble_eq_true rfl) (fun R hR => ?_)
  change R _ _ _ _ 500 10000
  refine us_aload_n hR dL_common_0 rfl ?_
  refine us_iconstC hR dL_common_1 (c := 0) (by decide) ?_
  refine us_aload_n hR dL_common_2 rfl ?_
  refine us_iload_n hR dL_common_3 rfl ?_
  refine us_iload_n hR dL_common_4 rfl ?_
  refine us_callV hR dL_common_5 (y := 11030) (by decide +kernel) (by decide) (J := i11030) rfl rfl rfl rfl (H_sch h2 hme) rfl (Nat.le_of_ble_eq_true rfl) (Nat.le_of_ble_eq_true rfl) (Nat.le_of_ble_eq_true rfl) ?_
  refine sh_11030 h2 ho (fun v hv => ?_) (fun e he => ?_)
  · refine us_i2l hR dL_common_8 ?_
    refine us_lastore hR dL_common_9 hk (by rw [hn]; exact vi_in ⟨by decide, by decide⟩) ?_
    refine us_goto hR dL_common_10 17 (by decide) ?_
    refine us_iconstC hR dL_common_17 (c := 0) (by decide) ?_
    exact us_iret hR dL_common_18 rfl rfl (h v hv)
  · obtain rfl := cD_of (hc e he)
    refine ex_w 13 (by decide +kernel) dL_common_13 (Nat.le_of_ble_eq_true rfl) ?_
    refine us_iconstC hR dL_common_15 (c := 1) (by decide) ?_
    exact us_iret hR dL_common_16 rfl rfl (hX 2 he)
theorem st_13022 {F : Nat → Prop} {d : Nat} {G : ab_G} {T : Tx} {P : ab_Pq} {X : ab_Xq} (h2 : Rep2 F G T) {me q : Nat} (hme : tK T me = 12) (hF : F q) (hk : gK G q = 17) (hn : gN G q = 1) {x0 : Int32} {x1 : Int32} {o : (Nat ⊕ Int32)} (ho : h_11031 me x0 x1 T = some o) (hc : ∀ e, o = .inl e → cD e ≠ 0) (h : ∀ v, o = .inr v → P (sJ G q 0 v.toInt64) (some (.int 0))) (hX : ∀ e, o = .inl e → P G (some (.int (cD e)))) : ab_Gam (d + 46) 13022 [.ref me, .int x0, .int x1, .ref q] G P X := by
  refine ab_enter (I := i13022) rfl (Nat.le_of_ble_eq_true rfl) (fun R hR => ?_)
  change R _ _ _ _ 500 10000
  refine us_aload_n hR dL_likeness_0 rfl ?_
  refine us_iconstC hR dL_likeness_1 (c := 0) (by decide) ?_
  refine us_aload_n hR dL_likeness_2 rfl ?_
  refine us_iload_n hR dL_likeness_3 rfl ?_
  refine us_iload_n hR dL_likeness_4 rfl ?_
  refine us_callV hR dL_likeness_5 (y := 11031) (by decide +kernel) (by decide) (J := i11031) rfl rfl rfl rfl (H_sch h2 hme) rfl (Nat.le_of_ble_eq_true rfl) (Nat.le_of_ble_eq_true rfl) (Nat.le_of_ble_eq_true rfl) ?_
  refine sh_11031 h2 ho (fun v hv => ?_) (fun e he => ?_)
  · refine us_i2l hR dL_likeness_8 ?_
    refine us_lastore hR dL_likeness_9 hk (by rw [hn]; exact vi_in ⟨by decide, by decide⟩) ?_
    refine us_goto hR dL_likeness_10 17 (by decide) ?_
    refine us_iconstC hR dL_likeness_17 (c := 0) (by decide) ?_
    exact us_iret hR dL_likeness_18 rfl rfl (h v hv)
  · obtain rfl := cD_of (hc e he)
    refine ex_w 13 (by decide +kernel) dL_likeness_13 (Nat.le_of_ble_eq_true rfl) ?_
    refine us_iconstC hR dL_likeness_15 (c := 1) (by decide) ?_
    exact us_iret hR dL_likeness_16 rfl rfl (hX 2 he)
theorem st_13023 {F : Nat → Prop} {d : Nat} {G : ab_G} {T : Tx} {P : ab_Pq} {X : ab_Xq} (h2 : Rep2 F G T) {me q : Nat} (hme : tK T me = 12) (hF : F q) (hk : gK G q = 17) (hn : gN G q = 1) {x0 : Int32} {x1 : Int32} {o : Tx × (Nat ⊕ Int32)} (ho : h_11032 me x0 x1 T = some o) (hc : ∀ e, o.2 = .inl e → cB e ≠ 0) (h : ∀ G1 v, o.2 = .inr v → Rep2 F G1 o.1 → SameF F G G1 → P (sJ G1 q 0 v.toInt64) (some (.int 0))) (hX : ∀ G1 e, o.2 = .inl e → Rep2 F G1 o.1 → SameF F G G1 → P G1 (some (.int (cB e)))) : ab_Gam (d + 47) 13023 [.ref me, .int x0, .int x1, .ref q] G P X := by
  refine ab_enter (I := i13023) rfl (Nat.le_of_ble_eq_true rfl) (fun R hR => ?_)
  change R _ _ _ _ 500 10000
  refine us_aload_n hR dL_accuse_0 rfl ?_
  refine us_iconstC hR dL_accuse_1 (c := 0) (by decide) ?_
  refine us_aload_n hR dL_accuse_2 rfl ?_
  refine us_iload_n hR dL_accuse_3 rfl ?_
  refine us_iload_n hR dL_accuse_4 rfl ?_
  refine us_callV hR dL_accuse_5 (y := 11032) (by decide +kernel) (by decide) (J := i11032) rfl rfl rfl rfl (H_sch h2 hme) rfl (Nat.le_of_ble_eq_true rfl) (Nat.le_of_ble_eq_true rfl) (Nat.le_of_ble_eq_true rfl) ?_
  refine sh_11032 h2 ho (fun G1 v hv r1 f1 => ?_) (fun G1 e he r1 f1 => ?_)
  · refine us_i2l hR dL_accuse_8 ?_
    refine us_lastore hR dL_accuse_9 (by rw [(f1 q hF).1]; exact hk) (by rw [(f1 q hF).2.1, hn]; exact vi_in ⟨by decide, by decide⟩) ?_
    refine us_goto hR dL_accuse_10 21 (by decide) ?_
    refine us_iconstC hR dL_accuse_21 (c := 0) (by decide) ?_
    exact us_iret hR dL_accuse_22 rfl rfl (h G1 v hv r1 f1)
  · rcases cB_of (hc e he) with rfl | rfl
    · refine ex_w 13 (by decide +kernel) dL_accuse_13 (Nat.le_of_ble_eq_true rfl) ?_
      refine us_iconstC hR dL_accuse_15 (c := 1) (by decide) ?_
      exact us_iret hR dL_accuse_16 rfl rfl (hX G1 2 he r1 f1)
    · refine ex_w 17 (by decide +kernel) dL_accuse_17 (Nat.le_of_ble_eq_true rfl) ?_
      refine us_iconstC hR dL_accuse_19 (c := 2) (by decide) ?_
      exact us_iret hR dL_accuse_20 rfl rfl (hX G1 3 he r1 f1)
theorem st_13024 {F : Nat → Prop} {d : Nat} {G : ab_G} {T : Tx} {P : ab_Pq} {X : ab_Xq} (h2 : Rep2 F G T) {me q : Nat} (hme : tK T me = 12) (hF : F q) (hk : gK G q = 17) (hn : gN G q = 1) {x0 : Int32} {o : Tx × (Nat ⊕ Int32)} (ho : h_11033 me x0 T = some o) (hc : ∀ e, o.2 = .inl e → cB e ≠ 0) (h : ∀ G1 v, o.2 = .inr v → Rep2 F G1 o.1 → SameF F G G1 → P (sJ G1 q 0 v.toInt64) (some (.int 0))) (hX : ∀ G1 e, o.2 = .inl e → Rep2 F G1 o.1 → SameF F G G1 → P G1 (some (.int (cB e)))) : ab_Gam (d + 45) 13024 [.ref me, .int x0, .ref q] G P X := by
  refine ab_enter (I := i13024) rfl (Nat.le_of_ble_eq_true rfl) (fun R hR => ?_)
  change R _ _ _ _ 500 10000
  refine us_aload_n hR dL_clear_0 rfl ?_
  refine us_iconstC hR dL_clear_1 (c := 0) (by decide) ?_
  refine us_aload_n hR dL_clear_2 rfl ?_
  refine us_iload_n hR dL_clear_3 rfl ?_
  refine us_callV hR dL_clear_4 (y := 11033) (by decide +kernel) (by decide) (J := i11033) rfl rfl rfl rfl (H_sch h2 hme) rfl (Nat.le_of_ble_eq_true rfl) (Nat.le_of_ble_eq_true rfl) (Nat.le_of_ble_eq_true rfl) ?_
  refine sh_11033 h2 ho (fun G1 v hv r1 f1 => ?_) (fun G1 e he r1 f1 => ?_)
  · refine us_i2l hR dL_clear_7 ?_
    refine us_lastore hR dL_clear_8 (by rw [(f1 q hF).1]; exact hk) (by rw [(f1 q hF).2.1, hn]; exact vi_in ⟨by decide, by decide⟩) ?_
    refine us_goto hR dL_clear_9 18 (by decide) ?_
    refine us_iconstC hR dL_clear_18 (c := 0) (by decide) ?_
    exact us_iret hR dL_clear_19 rfl rfl (h G1 v hv r1 f1)
  · rcases cB_of (hc e he) with rfl | rfl
    · refine ex_nn 12 (by decide +kernel) dL_clear_12 (Nat.le_of_ble_eq_true rfl) ?_
      refine us_iconstC hR dL_clear_13 (c := 1) (by decide) ?_
      exact us_iret hR dL_clear_14 rfl rfl (hX G1 2 he r1 f1)
    · refine ex_nn 15 (by decide +kernel) dL_clear_15 (Nat.le_of_ble_eq_true rfl) ?_
      refine us_iconstC hR dL_clear_16 (c := 2) (by decide) ?_
      exact us_iret hR dL_clear_17 rfl rfl (hX G1 3 he r1 f1)
theorem st_13025 {F : Nat → Prop} {d : Nat} {G : ab_G} {T : Tx} {P : ab_Pq} {X : ab_Xq} (h2 : Rep2 F G T) {me q : Nat} (hme : tK T me = 12) (hF : F q) (hk : gK G q = 17) (hn : gN G q = 1) {x0 : Int32} {o : (Nat ⊕ Int32)} (ho : h_11034 me x0 T = some o) (hc : ∀ e, o = .inl e → cD e ≠ 0) (h : ∀ v, o = .inr v → P (sJ G q 0 v.toInt64) (some (.int 0))) (hX : ∀ e, o = .inl e → P G (some (.int (cD e)))) : ab_Gam (d + 47) 13025 [.ref me, .int x0, .ref q] G P X := by
  refine ab_enter (I := i13025) rfl (Nat.le_of_ble_eq_true rfl) (fun R hR => ?_)
  change R _ _ _ _ 500 10000
  refine us_aload_n hR dL_doubt_0 rfl ?_
  refine us_iconstC hR dL_doubt_1 (c := 0) (by decide) ?_
  refine us_aload_n hR dL_doubt_2 rfl ?_
  refine us_iload_n hR dL_doubt_3 rfl ?_
  refine us_callV hR dL_doubt_4 (y := 11034) (by decide +kernel) (by decide) (J := i11034) rfl rfl rfl rfl (H_sch h2 hme) rfl (Nat.le_of_ble_eq_true rfl) (Nat.le_of_ble_eq_true rfl) (Nat.le_of_ble_eq_true rfl) ?_
  refine sh_11034 h2 ho (fun v hv => ?_) (fun e he => ?_)
  · refine us_i2l hR dL_doubt_7 ?_
    refine us_lastore hR dL_doubt_8 hk (by rw [hn]; exact vi_in ⟨by decide, by decide⟩) ?_
    refine us_goto hR dL_doubt_9 15 (by decide) ?_
    refine us_iconstC hR dL_doubt_15 (c := 0) (by decide) ?_
    exact us_iret hR dL_doubt_16 rfl rfl (h v hv)
  · obtain rfl := cD_of (hc e he)
    refine ex_nn 12 (by decide +kernel) dL_doubt_12 (Nat.le_of_ble_eq_true rfl) ?_
    refine us_iconstC hR dL_doubt_13 (c := 1) (by decide) ?_
    exact us_iret hR dL_doubt_14 rfl rfl (hX 2 he)
end LAW
