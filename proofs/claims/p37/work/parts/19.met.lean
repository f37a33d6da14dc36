/-! methods meet their contracts at every depth (over the JDK's methods, which are hypotheses here) -/
theorem ab_lv_args (f : Value → Value) (hf : ∀ w, (f w).category = w.category) : ∀ (vs : List Value) (i j : Nat) (v : Value), (ab_loc vs)[j]? = some (some v) → (i + j, f v) ∈ lv_args i (vs.map f)
  | [], i, j, v, h => by simp [ab_loc] at h
  | w :: r, i, j, v, h => by
    unfold ab_loc at h
    rw [List.map_cons]
    unfold lv_args
    rw [hf]
    by_cases hc : w.category = 2
    · rw [if_pos hc] at h ⊢
      match j, h with
      | 0, h =>
        have : w = v := by simpa using h
        subst this
        exact List.mem_cons_self
      | 1, h => simp at h
      | j + 2, h =>
        have := ab_lv_args f hf r (i + 2) j v (by simpa using h)
        rw [show i + 2 + j = i + (j + 2) by omega] at this
        exact List.mem_cons_of_mem _ this
    · rw [if_neg hc] at h ⊢
      match j, h with
      | 0, h =>
        have : w = v := by simpa using h
        subst this
        exact List.mem_cons_self
      | j + 1, h =>
        have := ab_lv_args f hf r (i + 1) j v (by simpa using h)
        rw [show i + 1 + j = i + (j + 1) by omega] at this
        exact List.mem_cons_of_mem _ this
theorem ab_lg_len (f : Value → Value) (hf : ∀ w, (f w).category = w.category) : ∀ vs : List Value, (lg_sl (vs.map f)).length = (ab_loc vs).length
  | [] => rfl
  | w :: r => by
    have ih := ab_lg_len f hf r
    unfold ab_loc
    rw [List.map_cons]
    unfold lg_sl at ih ⊢
    rw [List.flatMap_cons, hf]
    by_cases hc : w.category = 2
    · rw [if_pos hc, if_pos hc, List.length_append, ih]
      simp
      omega
    · rw [if_neg hc, if_neg hc, List.length_append, ih]
      simp
      omega
theorem ab_ent_LV (f : Value → Value) (hf : ∀ w, (f w).category = w.category) (vs : List Value) (n : Nat) (h : (ab_loc vs).length ≤ n) : ab_LV f ((lg_sl (vs.map f) ++ List.replicate (n - (lg_sl (vs.map f)).length) Slot.unset).toArray) n (ab_ent n vs) := by
  have hl := lv_entry (vs.map f) (n := n) (by rw [ab_lg_len f hf]; exact h)
  refine ab_LV.of hl (by unfold ab_ent; rw [List.length_append, List.length_replicate]; omega) (fun i v hv => ?_)
  unfold ab_ent at hv
  by_cases hi : i < (ab_loc vs).length
  · rw [List.getElem?_append_left hi] at hv
    have := ab_lv_args f hf vs 0 i v hv
    rwa [Nat.zero_add] at this
  · rw [List.getElem?_append_right (by omega), List.getElem?_replicate] at hv
    split at hv <;> simp at hv
theorem ab_loc_mem : ∀ (vs : List Value) (v : Value), some v ∈ ab_loc vs → v ∈ vs
  | [], v, h => by simp [ab_loc] at h
  | w :: r, v, h => by
    unfold ab_loc at h
    split at h
    · rcases List.mem_cons.mp h with h | h
      · have : v = w := by injection h
        subst this
        exact List.mem_cons_self
      · rcases List.mem_cons.mp h with h | h
        · cases h
        · exact List.mem_cons_of_mem _ (ab_loc_mem r v h)
    · rcases List.mem_cons.mp h with h | h
      · have : v = w := by injection h
        subst this
        exact List.mem_cons_self
      · exact List.mem_cons_of_mem _ (ab_loc_mem r v h)
theorem ab_ent_Lo {G : ab_G} {vs : List Value} {n : Nat} (h : ab_So G vs) : ab_Lo G (ab_ent n vs) := by
  intro v hv
  unfold ab_ent at hv
  rcases List.mem_append.mp hv with hv | hv
  · exact h v (ab_loc_mem vs v hv)
  · have := (List.mem_replicate.mp hv).2
    cases this
theorem ab_eT_w {o i ic : Nat} {E : String} (h : ab_eR o i = some (ic, E)) : o = 11 ∧ ab_EX E ∧ Cond.classLink RX10 i E ∈ ab_W ∧ Cond.initialized E ∈ ab_W ∧ Bundle.fit E = true ∧ (∀ w ∈ (vx_atS RX10 ic E ab_nmX).filter goodWord, w ∈ ab_W) ∧ (∀ w ∈ (vx_atS RX10 ic E ab_nmX).filter (fun w => !goodWord w), w ∈ ab_B) ∧ (∀ w ∈ Cond.classLink RX10 i E :: Cond.initialized E :: vx_atS RX10 ic E ab_nmX, vx_ot w = true) := by
  unfold ab_eR at h
  cases hq : ab_eT.find? (fun q => q.2.1 == i && q.1 == o) with
  | none => rw [hq] at h; cases h
  | some q =>
    rw [hq] at h
    obtain ⟨hm, hp⟩ := ab_find hq
    simp only [Bool.and_eq_true, beq_iff_eq] at hp
    simp only [Option.map_some, Option.some.injEq, Prod.mk.injEq] at h
    obtain ⟨e1, e2⟩ := h
    obtain ⟨e3, e4⟩ := hp
    subst e1; subst e2; subst e3; subst e4
    have key : ∀ (i ic : Nat) (E : String) (n1 n2 : Nat), ab_EX E → lw_tbl[n1]? = some (.classLink RX10 i E) → lw_tbl[n2]? = some (.initialized E) → Bundle.fit E = true → (∀ w ∈ (vx_atS RX10 ic E ab_nmX).filter goodWord, w ∈ lw_tbl) → (∀ w ∈ (vx_atS RX10 ic E ab_nmX).filter (fun w => !goodWord w), w ∈ ab_B) → (∀ w ∈ Cond.classLink RX10 i E :: Cond.initialized E :: vx_atS RX10 ic E ab_nmX, vx_ot w = true) → (11 = 11 ∧ ab_EX E ∧ Cond.classLink RX10 i E ∈ ab_W ∧ Cond.initialized E ∈ ab_W ∧ Bundle.fit E = true ∧ (∀ w ∈ (vx_atS RX10 ic E ab_nmX).filter goodWord, w ∈ ab_W) ∧ (∀ w ∈ (vx_atS RX10 ic E ab_nmX).filter (fun w => !goodWord w), w ∈ ab_B) ∧ (∀ w ∈ Cond.classLink RX10 i E :: Cond.initialized E :: vx_atS RX10 ic E ab_nmX, vx_ot w = true)) := fun i ic E n1 n2 h0 h1 h2 h3 h4 h5 h6 => ⟨rfl, h0, ab_W_of h1 rfl, ab_W_of h2 rfl, h3, fun w hw => List.mem_filter.mpr ⟨h4 w hw, (List.mem_filter.mp hw).2⟩, h5, h6⟩
    have hm2 : q = ab_eT[0]! ∨ q = ab_eT[1]! ∨ q = ab_eT[2]! := by
      rcases List.mem_cons.mp hm with h | hm
      · exact Or.inl h
      · rcases List.mem_cons.mp hm with h | hm
        · exact Or.inr (Or.inl h)
        · rcases List.mem_cons.mp hm with h | hm
          · exact Or.inr (Or.inr h)
          · cases hm
    rcases hm2 with rfl | rfl | rfl
    · exact key _ _ _ 432 83 (Or.inr (Or.inl rfl)) (by decide +kernel) (by decide +kernel) (by decide +kernel) (by decide +kernel) (by decide +kernel) (by decide +kernel)
    · exact key _ _ _ 1081 81 (Or.inr (Or.inr rfl)) (by decide +kernel) (by decide +kernel) (by decide +kernel) (by decide +kernel) (by decide +kernel) (by decide +kernel)
    · exact key _ _ _ 1115 82 (Or.inl rfl) (by decide +kernel) (by decide +kernel) (by decide +kernel) (by decide +kernel) (by decide +kernel) (by decide +kernel)

