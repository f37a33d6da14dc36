/-! lists grow: the methods -/
theorem jcls {G : ab_G} {a N : Nat} {f : Nat → Option Nat} (ha : a < gZ G) : gK (gB G N f) a = gK G a := u1_n _ _ (by omega)
section JKF
variable {D : va_G} {cy : Nat → ClassId} {sp ρ : Nat → Nat} {t0 sz : Nat} {G : ab_G}
/-- there is an array already -/
theorem jk_growA (l : Launch) {a g cap N : Nat} {hf r2 : Int32} (ha : a < gZ G) (hk : gK G a = 0) (he : gR G a 1 = some g) (hg : g < gZ G) (hg16 : gK G g = 16) (hn : gN G g = cap) (hc0 : 0 < cap) (hcN : cap ≤ N) (hN : N ≤ 40) (hz : gZ G < 1000000)
    (h1 : Int32.ofNat (cap + 1) - Int32.ofNat cap = hf) (h2 : Int32.ofNat cap >>> ((1 : Int32) &&& 31) = r2) (h3 : (Int32.ofNat cap + if hf < r2 then r2 else hf) = Int32.ofNat N) (h4 : ¬ Int32.ofNat N > 2147483639)
    (ht0 : ρ 1000000000 = t0) (hcl : ab_cl G) (P : jP) (hP : ∀ ρ1 : Nat → Nat, (∀ b, b < gZ G → ρ1 b = ρ b) → P ρ1 (sR (gB G N (fun j => if j < cap then gR G g j else none)) a 1 (some (gZ G))) (some (.ref (ρ1 (gZ G))))) (d : Nat) (hd : 4 ≤ d) : jM l ⟨"java/util/ArrayList", "grow", "(I)[Ljava/lang/Object;"⟩ cJx4a65c_grow_92f84 4 (some (.array (.object "java/lang/Object"))) d 1 40 D cy sp t0 ρ G sz [.ref (ρ a), .int (Int32.ofNat (cap + 1))] P := by
  refine jbody (by decide +kernel) ht0 hcl (by omega) (ab_W_of (i := 1354) (by decide +kernel) rfl) (fun p e s m below meth c hsz hC hr => ?_)
  obtain ⟨hx, hb, hml, hown, hts, hK, hA, hE, hRf, hRl, hrt, hnm, hlk⟩ := id hC
  have hl := lv_entry [.ref (ρ a), .int (Int32.ofNat (cap + 1))] (n := 4) (Nat.le_of_ble_eq_true rfl)
  rw [lg_entry_eq]
  generalize (lg_sl [.ref (ρ a), .int (Int32.ofNat (cap + 1))] ++ List.replicate (4 - (lg_sl [.ref (ρ a), .int (Int32.ofNat (cap + 1))]).length) Slot.unset).toArray = ls at hl ⊢
  have hl : lv_has ls 4 [(0, .ref (ρ a)), (1, .int (Int32.ofNat (cap + 1)))] := hl
  have hfv : ab_fv ρ G 0 a 1 = .ref (ρ g) := by
    show va_rf ((gR G a 1).map ρ) = _
    rw [he]
    rfl
  have wq := ab_ws_q (cy := cy) (ρ := ρ) hg hg16
  rw [hn] at wq
  refine lv_aload_n hx hb dJx4a65c_grow_92f84_0 rfl (lv_at hl 0 rfl) (jget hC hr (f := 1) ha hk (by decide) (ab_W_of (i := 338) (by decide +kernel) rfl) (fun _ h => h) dJx4a65c_grow_92f84_1 hfv ?_)
  refine va_alen hx hb hK hr.1 g 3 wq rfl (v := Int32.ofNat cap) rfl dJx4a65c_grow_92f84_4 ?_
  refine lv_istore_n hx hb dJx4a65c_grow_92f84_5 (i := 2) rfl hl (by decide) rfl (fun ls2 hl2 => ?_)
  have hl2 : lv_has ls2 4 [(2, .int (Int32.ofNat cap)), (0, .ref (ρ a)), (1, .int (Int32.ofNat (cap + 1)))] := hl2
  refine lv_iload_n hx hb dJx4a65c_grow_92f84_6 rfl (lv_at hl2 0 rfl) (lv_if_gt hx hb dJx4a65c_grow_92f84_7 (tgt := 20) rfl (fun _ => ?_) (fun h => absurd ((jn_lt (n := 0) (k := cap) (by omega) (by omega)).mpr hc0) h))
  refine lv_iload_n hx hb dJx4a65c_grow_92f84_20 rfl (lv_at hl2 0 rfl) (lv_iload_n hx hb dJx4a65c_grow_92f84_21 rfl (lv_at hl2 2 rfl) (lv_iload_n hx hb dJx4a65c_grow_92f84_22 rfl (lv_at hl2 0 rfl) (lv_isub hx hb dJx4a65c_grow_92f84_23 (lv_iload_n hx hb dJx4a65c_grow_92f84_24 rfl (lv_at hl2 0 rfl) (lv_iconst (v := 1) hx hb dJx4a65c_grow_92f84_25 rfl (lv_ishr hx hb dJx4a65c_grow_92f84_26 ?_))))))
  rw [h1, h2]
  have hM := jk_nl (D := D) (cy := cy) (sp := sp) (sz := s.heap.size) l h3 (fun h => by
      have h0 : Int32.ofNat N ≤ 0 := h
      have h5 : ¬ (0 : Int32) < Int32.ofNat N := fun h6 => absurd h0 (Int32.not_le.mpr h6)
      exact h5 ((jn_lt (n := 0) (k := N) (by omega) (by omega)).mpr (by omega))) h4 ht0 hcl (fun ρ' G' v => ρ' = ρ ∧ G' = G ∧ v = some (.int (Int32.ofNat N))) ⟨rfl, rfl, rfl⟩ 2 (Nat.le_refl _)
  refine jafter (mc := 0) (ms := 0) hC (vx_runS (As := [.int (Int32.ofNat cap), .int hf, .int r2]) (rest := []) (nL := 4) (cc := cJx4a65c_grow_92f84) ⟨hx, hb, hml, hown, hts⟩ hM ⟨jcall (k := 3) hC (by omega) (by decide) (ab_W_of (i := 1357) (by decide +kernel) rfl) (ab_W_of (i := 86) (by decide +kernel) rfl) (ab_W_of (i := 1355) (by decide +kernel) rfl) (by decide +kernel) (by decide), hts _ (ab_W_of (i := 1356) (by decide +kernel) rfl)⟩ ⟨jblind, fun U hU hW => jpre hC hr U hU hW⟩ rfl rfl hl2.1 rfl (lv_room (Nat.le_of_ble_eq_true rfl)) dJx4a65c_grow_92f84_27 ⟨Nat.le_of_ble_eq_true rfl, Nat.le_of_ble_eq_true rfl⟩) hr (fun ρ' G' v' H1 locs1 hp hr1 e1 e2 e3 => ?_)
  obtain ⟨rfl, rfl, rfl⟩ := hp
  refine lv_istore_n hx hb dJx4a65c_grow_92f84_30 (i := 3) rfl hl2 (by decide) rfl (fun ls3 hl3 => ?_)
  have hl3 : lv_has ls3 4 [(3, .int (Int32.ofNat N)), (2, .int (Int32.ofNat cap)), (0, .ref (ρ' a)), (1, .int (Int32.ofNat (cap + 1)))] := hl3
  refine lv_aload_n hx hb dJx4a65c_grow_92f84_31 rfl (lv_at hl3 2 rfl) (lv_aload_n hx hb dJx4a65c_grow_92f84_32 rfl (lv_at hl3 2 rfl) (jget hC hr1 (f := 1) ha hk (by decide) (ab_W_of (i := 338) (by decide +kernel) rfl) (fun _ h => h) dJx4a65c_grow_92f84_33 hfv (lv_iload_n hx hb dJx4a65c_grow_92f84_36 rfl (lv_at hl3 0 rfl) ?_)))
  have hM2 := jk_cpi (D := D) (cy := cy) (sp := sp) (sz := H1.size) l hg hg16 (by omega) hN hz ht0 hcl (fun ρ1 G1 w => (∀ b, b < gZ G' → ρ1 b = ρ' b) ∧ G1 = gB G' N (fun j => if j < gN G' g then gR G' g j else none) ∧ w = some (.ref (ρ1 (gZ G')))) (fun ρ1 h => ⟨h, rfl, rfl⟩) 3 (Nat.le_refl _)
  refine jafter (mc := 1) (ms := 40) hC (vx_runS (As := [.ref (ρ' g), .int (Int32.ofNat N)]) (rest := [.ref (ρ' a)]) (nL := 4) (cc := cJx4a65c_grow_92f84) ⟨hx, hb, hml, hown, hts⟩ hM2 ⟨jcall (k := 2) hC (by omega) (by decide) (ab_W_of (i := 1365) (by decide +kernel) rfl) (ab_W_of (i := 87) (by decide +kernel) rfl) (ab_W_of (i := 1363) (by decide +kernel) rfl) (by decide +kernel) (by decide), hts _ (ab_W_of (i := 1364) (by decide +kernel) rfl)⟩ ⟨jblind, fun U hU hW => jpre hC hr1 U hU hW⟩ rfl rfl hl3.1 rfl (lv_room (Nat.le_of_ble_eq_true rfl)) dJx4a65c_grow_92f84_37 ⟨Nat.le_of_ble_eq_true rfl, Nat.le_of_ble_eq_true rfl⟩) hr1 (fun ρ2 G2 v2 H2 locs2 hp hr2 e1 e2 e3 => ?_)
  obtain ⟨hag, rfl, rfl⟩ := hp
  rw [hn] at hr2
  show W p l e _ s m _ below meth c H2 locs2 _ _ _ (F0 m 40 ls3 [.ref (ρ2 (gZ G')), .ref (ρ' a)])
  refine lv_dup_x1 hx hb dJx4a65c_grow_92f84_40 rfl rfl ?_
  show W p l e _ s m _ below meth c H2 locs2 _ _ _ (F0 m 41 ls3 [.ref (ρ2 (gZ G')), .ref (ρ' a), .ref (ρ2 (gZ G'))])
  rw [show F0 m 41 ls3 [.ref (ρ2 (gZ G')), .ref (ρ' a), .ref (ρ2 (gZ G'))] = F0 m 41 ls3 [.ref (ρ2 (gZ G')), .ref (ρ2 a), .ref (ρ2 (gZ G'))] by rw [hag a ha]]
  refine jputR hC hr2 (a := a) (x := gZ G') (show a < gZ G' + 1 by omega) ((jcls ha).trans hk) (ab_W_of (i := 338) (by decide +kernel) rfl) dJx4a65c_grow_92f84_41 (Or.inl (show gZ G' < gZ G' + 1 by omega)) (fun H3 locs3 hr3 => ?_)
  exact jaret hC dJx4a65c_grow_92f84_44 rfl rfl (Or.inr ⟨_, rfl⟩) hr3 (Nat.le_refl _) (Nat.le_refl _) (Nat.le_refl _) (hP ρ2 hag)
/-- there is none -/
theorem jk_growB (l : Launch) {a : Nat} (ha : a < gZ G) (hk : gK G a = 0) (he : gR G a 1 = some 1000000000) (hz : gZ G < 1000000) (ht0 : ρ 1000000000 = t0) (hcl : ab_cl G) (P : jP) (hP : ∀ ρ1 : Nat → Nat, (∀ b, b < gZ G → ρ1 b = ρ b) → P ρ1 (sR (gNew G 16 10) a 1 (some (gZ G))) (some (.ref (ρ1 (gZ G))))) (d : Nat) (hd : 4 ≤ d) : jM l ⟨"java/util/ArrayList", "grow", "(I)[Ljava/lang/Object;"⟩ cJx4a65c_grow_92f84 4 (some (.array (.object "java/lang/Object"))) d 1 40 D cy sp t0 ρ G sz [.ref (ρ a), .int (Int32.ofNat 1)] P := by
  refine jbody (by decide +kernel) ht0 hcl (by omega) (ab_W_of (i := 1354) (by decide +kernel) rfl) (fun p e s m below meth c hsz hC hr => ?_)
  obtain ⟨hx, hb, hml, hown, hts, hK, hA, hE, hRf, hRl, hrt, hnm, hlk⟩ := id hC
  have hl := lv_entry [.ref (ρ a), .int (Int32.ofNat 1)] (n := 4) (Nat.le_of_ble_eq_true rfl)
  rw [lg_entry_eq]
  generalize (lg_sl [.ref (ρ a), .int (Int32.ofNat 1)] ++ List.replicate (4 - (lg_sl [.ref (ρ a), .int (Int32.ofNat 1)]).length) Slot.unset).toArray = ls at hl ⊢
  have hl : lv_has ls 4 [(0, .ref (ρ a)), (1, .int (Int32.ofNat 1))] := hl
  have hfv : ab_fv ρ G 0 a 1 = .ref t0 := by
    show va_rf ((gR G a 1).map ρ) = _
    rw [he]
    show Value.ref (ρ 1000000000) = _
    rw [ht0]
  refine lv_aload_n hx hb dJx4a65c_grow_92f84_0 rfl (lv_at hl 0 rfl) (jget hC hr (f := 1) ha hk (by decide) (ab_W_of (i := 338) (by decide +kernel) rfl) (fun _ h => h) dJx4a65c_grow_92f84_1 hfv ?_)
  refine va_tlen hx hb hE.2.2.2.2.2.2.2.1 hr.2.2.1 (v := 0) rfl dJx4a65c_grow_92f84_4 ?_
  refine lv_istore_n hx hb dJx4a65c_grow_92f84_5 (i := 2) rfl hl (by decide) rfl (fun ls2 hl2 => ?_)
  have hl2 : lv_has ls2 4 [(2, .int 0), (0, .ref (ρ a)), (1, .int (Int32.ofNat 1))] := hl2
  refine lv_iload_n hx hb dJx4a65c_grow_92f84_6 rfl (lv_at hl2 0 rfl) (lv_if_gt hx hb dJx4a65c_grow_92f84_7 (tgt := 20) rfl (fun h => absurd h (by decide)) (fun _ => ?_))
  refine lv_aload_n hx hb dJx4a65c_grow_92f84_10 rfl (lv_at hl2 1 rfl) (jget hC hr (f := 1) ha hk (by decide) (ab_W_of (i := 338) (by decide +kernel) rfl) (fun _ h => h) dJx4a65c_grow_92f84_11 hfv ?_)
  refine va_gets hx hb hE.2.2.2.2.2.2.1 hr.2.2.1 hown (hts _ (ab_W_of (i := 336) (by decide +kernel) rfl)) (fun _ h => h) dJx4a65c_grow_92f84_14 ?_
  refine lv_acmp_eq (rx := some t0) (ry := some t0) hx hb dJx4a65c_grow_92f84_17 (tgt := 45) rfl (fun _ => ?_) (fun h => absurd rfl h)
  refine lv_aload_n hx hb dJx4a65c_grow_92f84_45 rfl (lv_at hl2 1 rfl) (lv_bipush (v := 10) hx hb dJx4a65c_grow_92f84_46 rfl (lv_iload_n hx hb dJx4a65c_grow_92f84_48 rfl (lv_at hl2 2 rfl) ?_))
  refine va_mmax hx hb (hml.trans hl2.1.symm) hown (hts _ (ab_W_of (i := 1395) (by decide +kernel) rfl)) (hts _ (ab_W_of (i := 553) (by decide +kernel) rfl)) (hts _ (ab_W_of (i := 73) (by decide +kernel) rfl)) (hts _ (ab_W_of (i := 554) (by decide +kernel) rfl)) (by omega) (by show 1 + 13 ≤ 64 * d; omega) (Nat.zero_le _) (Nat.zero_le _) dJx4a65c_grow_92f84_49 ?_
  rw [show (if (10 : Int32) < Int32.ofNat 1 then Int32.ofNat 1 else 10) = Int32.ofNat 10 by decide]
  refine jnew hC hr rfl (ab_W_of (i := 1396) (by decide +kernel) rfl) dJx4a65c_grow_92f84_52 (by omega) (by omega) (Nat.le_of_ble_eq_true rfl) (Nat.le_of_ble_eq_true rfl) (fun q H1 hr1 => ?_)
  have hag : ∀ b, b < gZ G → u1 ρ (gZ G) q b = ρ b := fun b hb => u1_n _ _ (by omega)
  generalize u1 ρ (gZ G) q = ρ1 at hr1 hag ⊢
  refine lv_dup_x1 hx hb dJx4a65c_grow_92f84_55 rfl rfl ?_
  show W p l e _ s m _ below meth c H1 _ _ _ _ (F0 m 56 ls2 [.ref (ρ1 (gZ G)), .ref (ρ a), .ref (ρ1 (gZ G))])
  rw [show F0 m 56 ls2 [.ref (ρ1 (gZ G)), .ref (ρ a), .ref (ρ1 (gZ G))] = F0 m 56 ls2 [.ref (ρ1 (gZ G)), .ref (ρ1 a), .ref (ρ1 (gZ G))] by rw [hag a ha]]
  refine jputR hC hr1 (a := a) (x := gZ G) (show a < gZ G + 1 by omega) ((u1_n (gK G) 16 (show a ≠ gZ G by omega)).trans hk) (ab_W_of (i := 338) (by decide +kernel) rfl) dJx4a65c_grow_92f84_56 (Or.inl (show gZ G < gZ G + 1 by omega)) (fun H3 locs3 hr3 => ?_)
  exact jaret hC dJx4a65c_grow_92f84_59 rfl rfl (Or.inr ⟨_, rfl⟩) hr3 (Nat.le_refl _) (Nat.le_refl _) (Nat.le_of_ble_eq_true rfl) (hP ρ1 hag)
/-- grow() -/
theorem jk_grow0 (l : Launch) {a n : Nat} {P : jP} {d : Nat} (hd : 5 ≤ d) (ha : a < gZ G) (hk : gK G a = 0) (hs : gI G a 2 = Int32.ofNat n) (hn : n < 100) (ht0 : ρ 1000000000 = t0) (hcl : ab_cl G)
    (hM : ∀ sz, jM l ⟨"java/util/ArrayList", "grow", "(I)[Ljava/lang/Object;"⟩ cJx4a65c_grow_92f84 4 (some (.array (.object "java/lang/Object"))) 4 1 40 D cy sp t0 ρ G sz [.ref (ρ a), .int (Int32.ofNat (n + 1))] P) (hv : ∀ ρ' G' v, P ρ' G' v → ∃ r, v = some (.ref r)) : jM l ⟨"java/util/ArrayList", "grow", "()[Ljava/lang/Object;"⟩ cJx4a65c_grow_d5877 1 (some (.array (.object "java/lang/Object"))) d 1 40 D cy sp t0 ρ G sz [.ref (ρ a)] P := by
  refine jbody (by decide +kernel) ht0 hcl (by omega) (ab_W_of (i := 1350) (by decide +kernel) rfl) (fun p e s m below meth c hsz hC hr => ?_)
  obtain ⟨hx, hb, hml, hown, hts, hK, hA, hE, hRf, hRl, hrt, hnm, hlk⟩ := id hC
  have hl := lv_entry [.ref (ρ a)] (n := 1) (Nat.le_of_ble_eq_true rfl)
  rw [lg_entry_eq]
  generalize (lg_sl [.ref (ρ a)] ++ List.replicate (1 - (lg_sl [.ref (ρ a)]).length) Slot.unset).toArray = ls at hl ⊢
  refine lv_aload_n hx hb dJx4a65c_grow_d5877_0 rfl (lv_at hl 0 rfl) (lv_aload_n hx hb dJx4a65c_grow_d5877_1 rfl (lv_at hl 0 rfl) (jget hC hr (f := 2) (v := .int (Int32.ofNat n)) ha hk (by decide) (ab_W_of (i := 339) (by decide +kernel) rfl) (fun _ h => h) dJx4a65c_grow_d5877_2 (by
    show Value.int (gI G a 2) = _
    rw [hs]) (lv_iconst (v := 1) hx hb dJx4a65c_grow_d5877_5 rfl (lv_iadd hx hb dJx4a65c_grow_d5877_6 ?_))))
  have hadd : Int32.ofNat n + 1 = Int32.ofNat (n + 1) := by
    rw [show (1 : Int32) = Int32.ofNat 1 from rfl, ← Int32.ofNat_add]
  rw [hadd]
  refine jafter (mc := 1) (ms := 40) hC (vx_runV (b := ρ a) (C := "java/util/ArrayList") (As := [.int (Int32.ofNat (n + 1))]) (rest := []) (nL := 1) (cc := cJx4a65c_grow_d5877) ⟨hx, hb, hml, hown, hts⟩ (hM _) ⟨jcall (k := 1) hC (by omega) (by decide) (ab_W_of (i := 1354) (by decide +kernel) rfl) (ab_W_of (i := 72) (by decide +kernel) rfl) (ab_W_of (i := 1351) (by decide +kernel) rfl) (by decide +kernel) (by decide), hts _ (ab_W_of (i := 1353) (by decide +kernel) rfl), hts _ (ab_W_of (i := 55) (by decide +kernel) rfl)⟩ ⟨jblind, va_recv hK hr.1 (ab_cl_get (ci := 0) (by decide)) (ab_ws_o ha hk (by decide)), fun U hU hW => jpre hC hr U hU hW⟩ rfl rfl hl.1 rfl (lv_room (Nat.le_of_ble_eq_true rfl)) dJx4a65c_grow_d5877_7 ⟨Nat.le_of_ble_eq_true rfl, Nat.le_of_ble_eq_true rfl⟩) hr (fun ρ' G' v' H1 locs1 hp hr1 e1 e2 e3 => ?_)
  obtain ⟨r, rfl⟩ := hv _ _ _ hp
  exact jaret hC dJx4a65c_grow_d5877_10 rfl rfl (Or.inr ⟨_, rfl⟩) hr1 e3 (Nat.le_refl _) (Nat.le_refl _) hp
end JKF
