/-! indices, reading a list -/
section JKA
variable {D : va_G} {cy : Nat → ClassId} {sp ρ : Nat → Nat} {t0 sz : Nat} {G : ab_G}
theorem jk_pre (l : Launch) {i n : Int32} {v : Value} (hv : v = .null ∨ ∃ a, v = .ref a) (h0 : ¬ i < 0) (h1 : i < n) (ht0 : ρ 1000000000 = t0) (hcl : ab_cl G) (P : jP) (hP : P ρ G (some (.int i))) : jM l ⟨"jdk/internal/util/Preconditions", "checkIndex", "(IILjava/util/function/BiFunction;)I"⟩ cJ3_checkIndex_8e157 3 (some .int) 1 0 0 D cy sp t0 ρ G sz [.int i, .int n, v] P := by
  refine jbody (by decide +kernel) ht0 hcl (Nat.le_refl _) (ab_W_of (i := 509) (by decide +kernel) rfl) (fun p e s m below meth c hsz hC hr => ?_)
  obtain ⟨hx, hb, hml, hown, hts, hK, hA, hE, hRf, hRl, hrt, hnm, hlk⟩ := id hC
  have hcv : v.category = 1 := by rcases hv with rfl | ⟨a, rfl⟩ <;> rfl
  have hl := lv_entry [.int i, .int n, v] (n := 3) (by rcases hv with rfl | ⟨a, rfl⟩ <;> exact Nat.le_of_ble_eq_true rfl)
  rw [lg_entry_eq]
  generalize (lg_sl [.int i, .int n, v] ++ List.replicate (3 - (lg_sl [.int i, .int n, v]).length) Slot.unset).toArray = ls at hl ⊢
  refine lv_iload_n hx hb dJ3_checkIndex_8e157_0 rfl (lv_at hl 0 rfl) (lv_if_lt hx hb dJ3_checkIndex_8e157_1 (tgt := 9) rfl (fun h => absurd h h0) fun _ => ?_)
  refine lv_iload_n hx hb dJ3_checkIndex_8e157_4 rfl (lv_at hl 0 rfl) (lv_iload_n hx hb dJ3_checkIndex_8e157_5 rfl (lv_at hl 1 rfl) (lv_icmp_lt hx hb dJ3_checkIndex_8e157_6 (tgt := 16) rfl (fun _ => ?_) (fun h => absurd h1 h)))
  refine lv_iload_n hx hb dJ3_checkIndex_8e157_16 rfl (lv_at hl 0 rfl) ?_
  exact jiret hC dJ3_checkIndex_8e157_17 rfl rfl hr (Nat.le_refl _) (Nat.le_refl _) (Nat.le_refl _) hP
theorem jk_obj (l : Launch) {i n : Int32} (h0 : ¬ i < 0) (h1 : i < n) (ht0 : ρ 1000000000 = t0) (hcl : ab_cl G) (P : jP) (hP : P ρ G (some (.int i))) : jM l ⟨"java/util/Objects", "checkIndex", "(II)I"⟩ cJ15_checkIndex_7cf53 2 (some .int) 2 0 0 D cy sp t0 ρ G sz [.int i, .int n] P := by
  refine jbody (by decide +kernel) ht0 hcl (by decide) (ab_W_of (i := 506) (by decide +kernel) rfl) (fun p e s m below meth c hsz hC hr => ?_)
  obtain ⟨hx, hb, hml, hown, hts, hK, hA, hE, hRf, hRl, hrt, hnm, hlk⟩ := id hC
  have hl := lv_entry [.int i, .int n] (n := 2) (Nat.le_of_ble_eq_true rfl)
  rw [lg_entry_eq]
  generalize (lg_sl [.int i, .int n] ++ List.replicate (2 - (lg_sl [.int i, .int n]).length) Slot.unset).toArray = ls at hl ⊢
  refine lv_iload_n hx hb dJ15_checkIndex_7cf53_0 rfl (lv_at hl 0 rfl) (lv_iload_n hx hb dJ15_checkIndex_7cf53_1 rfl (lv_at hl 1 rfl) (lv_null hx hb dJ15_checkIndex_7cf53_2 ?_))
  have hM := jk_pre (D := D) (cy := cy) (sp := sp) (sz := s.heap.size) l (v := .null) (Or.inl rfl) h0 h1 ht0 hcl (fun ρ' G' v => ρ' = ρ ∧ G' = G ∧ v = some (.int i)) ⟨rfl, rfl, rfl⟩
  refine jafter hC (vx_runS (As := [.int i, .int n, .null]) (rest := []) (nL := 2) (cc := cJ15_checkIndex_7cf53) ⟨hx, hb, hml, hown, hts⟩ hM ⟨jcall (k := 3) hC (by decide) (by decide) (ab_W_of (i := 509) (by decide +kernel) rfl) (ab_W_of (i := 76) (by decide +kernel) rfl) (ab_W_of (i := 507) (by decide +kernel) rfl) (by decide +kernel) (by decide), hts _ (ab_W_of (i := 508) (by decide +kernel) rfl)⟩ ⟨jblind, fun U hU hW => jpre hC hr U hU hW⟩ rfl rfl hl.1 rfl (lv_room (by decide)) dJ15_checkIndex_7cf53_3 ⟨by decide, by decide⟩) hr (fun ρ' G' v H1 locs1 hp hr1 e1 e2 e3 => ?_)
  obtain ⟨rfl, rfl, rfl⟩ := hp
  exact jiret hC dJ15_checkIndex_7cf53_6 rfl rfl hr1 (Nat.le_refl _) (Nat.le_refl _) (Nat.le_refl _) hP
end JKA
