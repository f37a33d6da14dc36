/-! the reference: variables and calls -/
section VR
variable {tx : List Int32} {s : Sx} {a : Nat} {mo bl : List Ae} {oe oc : Nat → Prop} {pd : Nat} {m : Mx}
theorem xpos_m1 {r : List Int32} {v : Int32} (hr : r.length ≤ 300) : xpos r v = -1 ↔ v ∉ r := by
  unfold xpos
  by_cases h : v ∈ r
  · rw [if_pos h]
    constructor
    · intro e
      have hlt := List.idxOf_lt_length_of_mem h
      have h0 : (0 : Int32) ≤ nI (r.idxOf v) := nI_pos' (by omega)
      rw [e] at h0
      exact absurd h0 (by decide)
    · intro e
      exact absurd h e
  · rw [if_neg h]
    exact ⟨fun _ => h, fun _ => rfl⟩
theorem nodup_app {r : List Int32} {v : Int32} (h : r.Nodup) (hv : v ∉ r) : (r ++ [v]).Nodup := by
  rw [List.nodup_append]
  refine ⟨h, by simp, fun x hx y hy => ?_⟩
  rw [List.mem_singleton.1 hy]
  exact fun e => hv (e ▸ hx)
theorem mg_n {m : Mx} {j k : Nat} (h : k < 100000) : mg m j (nI k) = m j k := by
  unfold mg
  rw [nI_C h]
theorem var_12029 (h : RR (tks tx) tx s a mo bl oe oc pd m) {o : Nat} (ho : o ≤ 1) (hs : mf m 34 = nI o) (h6 : mf m 6 = nI (tpl (tks tx) a)) (h7 : mf m 7 = nI (ten (tks tx) a)) (hj : a + 1 < (tks tx).length) (h4 : tkd (tks tx) a = 4) :
    (xpos (s.1 (13 + o)) (tvl (tks tx) a) ≠ -1 → f_12029 m = some (m, xpos (s.1 (13 + o)) (tvl (tks tx) a))) ∧
    (xpos (s.1 (13 + o)) (tvl (tks tx) a) = -1 → ¬ (s.1 (13 + o)).length < 8 → f_12029 m = some (m, -1)) ∧
    (xpos (s.1 (13 + o)) (tvl (tks tx) a) = -1 → (s.1 (13 + o)).length < 8 → ∃ m', f_12029 m = some (m', nI (s.1 (13 + o)).length) ∧ RR (tks tx) tx (sB s (13 + o) (s.1 (13 + o) ++ [tvl (tks tx) a])) a mo bl oe oc pd m' ∧ ∀ j, j ≠ 9 → j ≠ 10 → j ≠ 11 → m' j = m j) ∧
    f_12028 m = some (xpos (s.1 (13 + o)) (tvl (tks tx) a)) := by
  have tj := tks_at hj
  have hh := h
  obtain ⟨⟨h1, h1b⟩, h2, h3, ⟨n1, n2, n3, n4, n5, n6, n7, n8⟩, h5, h8, h9⟩ := h
  have hr8 : (s.1 (13 + o)).length ≤ 8 := by
    rcases (by omega : o = 0 ∨ o = 1) with rfl | rfl
    · exact n3
    · exact n4
  have hnd : (s.1 (13 + o)).Nodup := by
    rcases (by omega : o = 0 ∨ o = 1) with rfl | rfl
    · exact n5
    · exact n6
  have hm9 : mg m 9 (nI o) = nI (s.1 (13 + o)).length := by
    rcases (by omega : o = 0 ∨ o = 1) with rfl | rfl
    · exact n1
    · exact n2
  have hN : ∀ k, k < (s.1 (13 + o)).length → NameIs (tks tx) (mg m 10 (nI (8 * o + k))) (mg m 11 (nI (8 * o + k))) ((s.1 (13 + o)).getD k 0) := by
    intro k hk
    rw [mg_n (by omega), mg_n (by omega)]
    rcases (by omega : o = 0 ∨ o = 1) with rfl | rfl
    · have := n7 k hk
      rw [show 8 * 0 + k = k by omega]
      exact this
    · exact n8 k hk
  have hk := known_12028 h1 hr8 ho hnd hs hm9 hN hj h4 h6 h7
  have hsub : nI (ten (tks tx) a) - nI (tpl (tks tx) a) = nI (ten (tks tx) a - tpl (tks tx) a) := by
    have : nI (ten (tks tx) a) = nI (ten (tks tx) a - tpl (tks tx) a) + nI (tpl (tks tx) a) := by rw [nI_add]; congr 1; omega
    rw [this, Int32.add_sub_cancel]
  have v34 : vi (mf m 34) 2 := by rw [hs]; exact vi_n (by omega) (by omega)
  refine ⟨?_, ?_, ?_, hk⟩
  · intro q
    unfold f_12029
    rw [hk, bP_some, if_neg q]
  · intro q hl
    unfold f_12029
    have e8 : (s.1 (13 + o)).length = 8 := by omega
    rw [hk, bP_some, if_pos q, gd_e v34, hs, hm9, e8, if_pos (by decide), q]
  · intro q hl
    have hv : tvl (tks tx) a ∉ s.1 (13 + o) := (xpos_m1 (by omega)).1 q
    have e8 : ∀ k, (8 : Int32) * nI o + nI k = nI (8 * o + k) := by
      intro k
      rcases (by omega : o = 0 ∨ o = 1) with e | e
      · subst e
        rw [show (8 : Int32) * nI 0 = nI 0 by decide, nI_add]
      · subst e
        rw [show (8 : Int32) * nI 1 = nI 8 by decide, nI_add]
    have hNa : NameIs (tks tx) (nI (tpl (tks tx) a)) (nI (ten (tks tx) a - tpl (tks tx) a)) (tvl (tks tx) a) := ⟨a, hj, h4, rfl, rfl, rfl⟩
    refine ⟨ms (ms (ms m 10 (nI (8 * o + (s.1 (13 + o)).length)) (nI (tpl (tks tx) a))) 11 (nI (8 * o + (s.1 (13 + o)).length)) (nI (ten (tks tx) a - tpl (tks tx) a))) 9 (nI o) (nI (s.1 (13 + o)).length + 1), ?_, ?_, fun j a1 a2 a3 => by rw [ms_j a1, ms_j a3, ms_j a2]⟩
    · unfold f_12029
      rw [hk, bP_some, if_pos q, gd_e v34, hs, hm9, if_neg (by rw [show (8 : Int32) = nI 8 from rfl, nI_eq (by omega) (by omega)]; omega), gd_e (by rw [← hs]; exact v34), e8, gd_e (vi_n (by omega) (by omega)), bS_eq]
      have q9 : ∀ x i y, mg (ms m 10 x i) 9 y = mg m 9 y := fun x i y => rfl
      have q34 : ∀ x i, mf (ms m 10 x i) 34 = mf m 34 := fun x i => rfl
      rw [q34, hs, gd_e (by rw [← hs]; exact v34), q9, hm9, e8, gd_e (vi_n (by omega) (by omega)), bS_eq]
      have q7 : ∀ x i, mf (ms m 10 x i) 7 = mf m 7 := fun x i => rfl
      have q6 : ∀ x i, mf (ms m 10 x i) 6 = mf m 6 := fun x i => rfl
      rw [q7, q6, h6, h7, hsub]
      have q34' : ∀ x i y z, mf (ms (ms m 10 x i) 11 y z) 34 = mf m 34 := fun x i y z => rfl
      have q9' : ∀ x i y z w, mg (ms (ms m 10 x i) 11 y z) 9 w = mg m 9 w := fun x i y z w => rfl
      rw [q34', hs, gd_e (by rw [← hs]; exact v34), gd_e (by rw [← hs]; exact v34), bS_eq, q9', hm9]
      have q34'' : ∀ x i y z u w, mf (ms (ms (ms m 10 x i) 11 y z) 9 u w) 34 = mf m 34 := fun x i y z u w => rfl
      rw [q34'', hs, gd_e (by rw [← hs]; exact v34)]
      have qe : mg (ms (ms (ms m 10 (nI (8 * o + (s.1 (13 + o)).length)) (nI (tpl (tks tx) a))) 11 (nI (8 * o + (s.1 (13 + o)).length)) (nI (ten (tks tx) a - tpl (tks tx) a))) 9 (nI o) (nI (s.1 (13 + o)).length + 1)) 9 (nI o) = nI (s.1 (13 + o)).length + 1 := by
        rw [mg_n (by omega), ms_s (by omega)]
        show (if o = o then _ else _) = _
        rw [if_pos rfl]
      rw [qe, nI_1, nI_pred]
    · obtain ⟨⟨_, _⟩, _, _, _, _, _, _⟩ := hh
      refine ⟨⟨h1, h1b⟩, ?_, ?_, ?_, ?_, ?_, ?_⟩
      · rcases (by omega : o = 0 ∨ o = 1) with rfl | rfl <;> exact h2
      · rcases (by omega : o = 0 ∨ o = 1) with rfl | rfl <;> exact h3
      · have g9 : ∀ i, ms (ms (ms m 10 (nI (8 * o + (s.1 (13 + o)).length)) (nI (tpl (tks tx) a))) 11 (nI (8 * o + (s.1 (13 + o)).length)) (nI (ten (tks tx) a - tpl (tks tx) a))) 9 (nI o) (nI (s.1 (13 + o)).length + 1) 9 i = if i = o then nI ((s.1 (13 + o)).length + 1) else m 9 i := by
          intro i
          rw [ms_s (by omega), nI_1]
          rfl
        have g10 : ∀ i, ms (ms (ms m 10 (nI (8 * o + (s.1 (13 + o)).length)) (nI (tpl (tks tx) a))) 11 (nI (8 * o + (s.1 (13 + o)).length)) (nI (ten (tks tx) a - tpl (tks tx) a))) 9 (nI o) (nI (s.1 (13 + o)).length + 1) 10 i = if i = 8 * o + (s.1 (13 + o)).length then nI (tpl (tks tx) a) else m 10 i := by
          intro i
          rw [ms_j (by decide), ms_j (by decide), ms_s (by omega)]
        have g11 : ∀ i, ms (ms (ms m 10 (nI (8 * o + (s.1 (13 + o)).length)) (nI (tpl (tks tx) a))) 11 (nI (8 * o + (s.1 (13 + o)).length)) (nI (ten (tks tx) a - tpl (tks tx) a))) 9 (nI o) (nI (s.1 (13 + o)).length + 1) 11 i = if i = 8 * o + (s.1 (13 + o)).length then nI (ten (tks tx) a - tpl (tks tx) a) else m 11 i := by
          intro i
          rw [ms_j (by decide), ms_s (by omega), ms_j (by decide)]
        rcases (by omega : o = 0 ∨ o = 1) with rfl | rfl
        · refine ⟨?_, ?_, ?_, n4, nodup_app n5 hv, n6, ?_, ?_⟩
          · rw [g9, if_pos rfl]
            show _ = nI (s.1 13 ++ [_]).length
            rw [List.length_append]
            rfl
          · rw [g9, if_neg (by decide)]
            exact n2
          · show (s.1 13 ++ [_]).length ≤ 8
            rw [List.length_append]
            exact hl
          · intro k hk'
            have hk'' : k < (s.1 13 ++ [tvl (tks tx) a]).length := hk'
            rw [List.length_append] at hk''
            show NameIs _ _ _ ((s.1 13 ++ [tvl (tks tx) a]).getD k 0)
            rw [g10, g11]
            by_cases e : k = (s.1 13).length
            · rw [if_pos (by show k = 8 * 0 + (s.1 13).length; omega), if_pos (by show k = 8 * 0 + (s.1 13).length; omega), e, gD_app_r]
              exact hNa
            · rw [if_neg (by show ¬ k = 8 * 0 + (s.1 13).length; omega), if_neg (by show ¬ k = 8 * 0 + (s.1 13).length; omega), gD_app_l (by have : [tvl (tks tx) a].length = 1 := rfl; omega)]
              exact n7 k (by have : [tvl (tks tx) a].length = 1 := rfl; omega)
          · intro k hk'
            have hk2 : k < (s.1 14).length := hk'
            have hl2 : (s.1 13).length < 8 := hl
            rw [g10, g11, if_neg (by show ¬ 8 + k = 8 * 0 + (s.1 13).length; omega), if_neg (by show ¬ 8 + k = 8 * 0 + (s.1 13).length; omega)]
            exact n8 k hk2
        · refine ⟨?_, ?_, n3, ?_, n5, nodup_app n6 hv, ?_, ?_⟩
          · rw [g9, if_neg (by decide)]
            exact n1
          · rw [g9, if_pos rfl]
            show _ = nI (s.1 14 ++ [_]).length
            rw [List.length_append]
            rfl
          · show (s.1 14 ++ [_]).length ≤ 8
            rw [List.length_append]
            exact hl
          · intro k hk'
            have hk2 : k < (s.1 13).length := hk'
            rw [g10, g11, if_neg (by show ¬ k = 8 * 1 + (s.1 14).length; omega), if_neg (by show ¬ k = 8 * 1 + (s.1 14).length; omega)]
            exact n7 k hk2
          · intro k hk'
            have hk'' : k < (s.1 14 ++ [tvl (tks tx) a]).length := hk'
            rw [List.length_append] at hk''
            show NameIs _ _ _ ((s.1 14 ++ [tvl (tks tx) a]).getD k 0)
            rw [g10, g11]
            by_cases e : k = (s.1 14).length
            · rw [if_pos (by show 8 + k = 8 * 1 + (s.1 14).length; omega), if_pos (by show 8 + k = 8 * 1 + (s.1 14).length; omega), e, gD_app_r]
              exact hNa
            · rw [if_neg (by show ¬ 8 + k = 8 * 1 + (s.1 14).length; omega), if_neg (by show ¬ 8 + k = 8 * 1 + (s.1 14).length; omega), gD_app_l (by have : [tvl (tks tx) a].length = 1 := rfl; omega)]
              exact n8 k (by have : [tvl (tks tx) a].length = 1 := rfl; omega)
      · rcases (by omega : o = 0 ∨ o = 1) with rfl | rfl <;> exact h5
      · rcases (by omega : o = 0 ∨ o = 1) with rfl | rfl <;> exact h8
      · rcases (by omega : o = 0 ∨ o = 1) with rfl | rfl <;> exact h9
end VR
