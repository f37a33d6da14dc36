/-! a new list -/
section JKC
variable {D : va_G} {cy : Nat → ClassId} {sp ρ : Nat → Nat} {t0 sz : Nat} {G : ab_G}
theorem jk_ac (l : Launch) {a : Nat} (ht0 : ρ 1000000000 = t0) (hcl : ab_cl G) (P : jP) (hP : P ρ G none) (d : Nat) (hd : 1 ≤ d) : jM l ⟨"java/util/AbstractCollection", "<init>", "()V"⟩ cJxa1e45_init_da8c8 1 none d 0 0 D cy sp t0 ρ G sz [.ref (ρ a)] P := by
  refine jbody (by decide +kernel) ht0 hcl hd (ab_W_of (i := 334) (by decide +kernel) rfl) (fun p e s m below meth c hsz hC hr => ?_)
  obtain ⟨hx, hb, hml, hown, hts, hK, hA, hE, hRf, hRl, hrt, hnm, hlk⟩ := id hC
  have hl := lv_entry [.ref (ρ a)] (n := 1) (Nat.le_of_ble_eq_true rfl)
  rw [lg_entry_eq]
  generalize (lg_sl [.ref (ρ a)] ++ List.replicate (1 - (lg_sl [.ref (ρ a)]).length) Slot.unset).toArray = ls at hl ⊢
  refine lv_aload_n hx hb dJxa1e45_init_da8c8_0 rfl (lv_at hl 0 rfl) ?_
  refine W.objInit hx hb hown (hts _ (ab_W_of (i := 335) (by decide +kernel) rfl)) (hts _ (ab_W_of (i := 97) (by decide +kernel) rfl)) (hts _ (ab_W_of (i := 98) (by decide +kernel) rfl)) rfl (by rw [hml]; exact hl.1) rfl dJxa1e45_init_da8c8_1 (by show 1 ≤ d; omega) ?_ ?_
  · show 2 * 0 + 0 + 12 ≤ 64 * d
    omega
  · exact jvret hC dJxa1e45_init_da8c8_4 rfl hr (Nat.le_refl _) (Nat.le_refl _) (Nat.le_refl _) hP
theorem jk_al (l : Launch) {a : Nat} (ha : a < gZ G) (hk : gK G a = 0) (ht0 : ρ 1000000000 = t0) (hcl : ab_cl G) (P : jP) (hP : P ρ (sI G a 0 0) none) (d : Nat) (hd : 2 ≤ d) : jM l ⟨"java/util/AbstractList", "<init>", "()V"⟩ cJxc12de_init_da8c8 1 none d 0 0 D cy sp t0 ρ G sz [.ref (ρ a)] P := by
  refine jbody (by decide +kernel) ht0 hcl (by omega) (ab_W_of (i := 331) (by decide +kernel) rfl) (fun p e s m below meth c hsz hC hr => ?_)
  obtain ⟨hx, hb, hml, hown, hts, hK, hA, hE, hRf, hRl, hrt, hnm, hlk⟩ := id hC
  have hl := lv_entry [.ref (ρ a)] (n := 1) (Nat.le_of_ble_eq_true rfl)
  rw [lg_entry_eq]
  generalize (lg_sl [.ref (ρ a)] ++ List.replicate (1 - (lg_sl [.ref (ρ a)]).length) Slot.unset).toArray = ls at hl ⊢
  refine lv_aload_n hx hb dJxc12de_init_da8c8_0 rfl (lv_at hl 0 rfl) ?_
  have hM := jk_ac (D := D) (cy := cy) (sp := sp) (sz := s.heap.size) l (a := a) ht0 hcl (fun ρ' G' v => ρ' = ρ ∧ G' = G ∧ v = none) ⟨rfl, rfl, rfl⟩ 1 (Nat.le_refl _)
  refine jafter hC (vx_runI (b := ρ a) (As := []) (rest := []) (nL := 1) (cc := cJxc12de_init_da8c8) ⟨hx, hb, hml, hown, hts⟩ hM ⟨jcall (k := 0) hC (by omega) (by decide) (ab_W_of (i := 334) (by decide +kernel) rfl) (ab_W_of (i := 70) (by decide +kernel) rfl) (ab_W_of (i := 332) (by decide +kernel) rfl) (by decide +kernel) (by decide), rfl, hts _ (ab_W_of (i := 333) (by decide +kernel) rfl)⟩ ⟨jblind, fun U hU hW => jpre hC hr U hU hW⟩ rfl rfl hl.1 rfl (lv_room (by decide)) dJxc12de_init_da8c8_1 ⟨Nat.le_of_ble_eq_true rfl, Nat.le_of_ble_eq_true rfl⟩) hr (fun ρ' G' v' H1 locs1 hp hr1 e1 e2 e3 => ?_)
  obtain ⟨rfl, rfl, rfl⟩ := hp
  refine lv_aload_n hx hb dJxc12de_init_da8c8_4 rfl (lv_at hl 0 rfl) (lv_iconst (v := 0) hx hb dJxc12de_init_da8c8_5 rfl ?_)
  refine jputI hC hr1 (f := 0) ha hk (by decide) rfl (ab_W_of (i := 340) (by decide +kernel) rfl) (fun _ h => h) dJxc12de_init_da8c8_6 rfl rfl (fun H2 locs2 hr2 => ?_)
  exact jvret hC dJxc12de_init_da8c8_9 rfl hr2 (Nat.le_refl _) (Nat.le_refl _) (Nat.le_refl _) hP
theorem jk_init (l : Launch) {a : Nat} (ha : a < gZ G) (hk : gK G a = 0) (ht0 : ρ 1000000000 = t0) (hcl : ab_cl G) (P : jP) (hP : P ρ (sR (sI G a 0 0) a 1 (some 1000000000)) none) (d : Nat) (hd : 3 ≤ d) : jM l ⟨"java/util/ArrayList", "<init>", "()V"⟩ cJx4a65c_init_da8c8 1 none d 0 0 D cy sp t0 ρ G sz [.ref (ρ a)] P := by
  refine jbody (by decide +kernel) ht0 hcl (by omega) (ab_W_of (i := 328) (by decide +kernel) rfl) (fun p e s m below meth c hsz hC hr => ?_)
  obtain ⟨hx, hb, hml, hown, hts, hK, hA, hE, hRf, hRl, hrt, hnm, hlk⟩ := id hC
  have hl := lv_entry [.ref (ρ a)] (n := 1) (Nat.le_of_ble_eq_true rfl)
  rw [lg_entry_eq]
  generalize (lg_sl [.ref (ρ a)] ++ List.replicate (1 - (lg_sl [.ref (ρ a)]).length) Slot.unset).toArray = ls at hl ⊢
  refine lv_aload_n hx hb dJx4a65c_init_da8c8_0 rfl (lv_at hl 0 rfl) ?_
  have hM := jk_al (D := D) (cy := cy) (sp := sp) (sz := s.heap.size) l ha hk ht0 hcl (fun ρ' G' v => ρ' = ρ ∧ G' = sI G a 0 0 ∧ v = none) ⟨rfl, rfl, rfl⟩ 2 (Nat.le_refl _)
  refine jafter hC (vx_runI (b := ρ a) (As := []) (rest := []) (nL := 1) (cc := cJx4a65c_init_da8c8) ⟨hx, hb, hml, hown, hts⟩ hM ⟨jcall (k := 0) hC (by omega) (by decide) (ab_W_of (i := 331) (by decide +kernel) rfl) (ab_W_of (i := 71) (by decide +kernel) rfl) (ab_W_of (i := 329) (by decide +kernel) rfl) (by decide +kernel) (by decide), rfl, hts _ (ab_W_of (i := 330) (by decide +kernel) rfl)⟩ ⟨jblind, fun U hU hW => jpre hC hr U hU hW⟩ rfl rfl hl.1 rfl (lv_room (by decide)) dJx4a65c_init_da8c8_1 ⟨Nat.le_of_ble_eq_true rfl, Nat.le_of_ble_eq_true rfl⟩) hr (fun ρ' G' v' H1 locs1 hp hr1 e1 e2 e3 => ?_)
  obtain ⟨rfl, rfl, rfl⟩ := hp
  refine lv_aload_n hx hb dJx4a65c_init_da8c8_4 rfl (lv_at hl 0 rfl) ?_
  refine va_gets hx hb hE.2.2.2.2.2.2.1 hr1.2.2.1 hown (hts _ (ab_W_of (i := 336) (by decide +kernel) rfl)) (fun _ h => h) dJx4a65c_init_da8c8_5 ?_
  rw [show Value.ref t0 = Value.ref (ρ' 1000000000) by rw [ht0]]
  refine jputR hC (ρ := ρ') (x := 1000000000) hr1 (a := a) ha hk (ab_W_of (i := 338) (by decide +kernel) rfl) dJx4a65c_init_da8c8_8 (Or.inr rfl) (fun H2 locs2 hr2 => ?_)
  exact jvret hC dJx4a65c_init_da8c8_11 rfl hr2 (Nat.le_refl _) (Nat.le_refl _) (Nat.le_refl _) hP
end JKC
