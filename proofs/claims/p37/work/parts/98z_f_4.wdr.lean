/-! the law: a test is withdrawn -/
section SCW
variable {T T' : Tx} {m m0 m' : Mx} {tx : List Int32} {e0 n0 td i j k n l p N z : Nat} {t : Nat → Nat} {A : Nat → List Int32} {v w x7 x8 x9 x10 x11 x12 x13 : Int32} {es : List Nat} {ts : Nat → List Nat} {as : List Nat} {ps : Nat → Nat} {txs : Nat → List Int32} {ss : Nat → Sx} {pd : Nat} {own : Nat → Nat} {F G : Nat → Int32} {bc bs : Nat}
theorem sc_451 (h : SInv 0 T m tx es ts as ps txs ss pd own) (hz : 80 ≤ tZ T) (hB : BkI m A e0 n0 td t) (hj : j < e0) (hk : k < t j ∨ t j = 0 ∧ k = 0) (hb : 1300 ≤ bc ∧ 48600 ≤ bs) : ScR A td tx (l_13041_J451 0 74 75 76 77 78 79 x7 x8 x9 (nI j) (nI k) bc bs (T, A)) := by
  obtain ⟨en, ee, et⟩ := hB.en h
  have h30 := h.2.2.2.2.1.2.1
  have hB' := hB
  obtain ⟨b1, b2, b3, ⟨l74, l75, l76, l77, l78, l79⟩, ⟨c1, c1', c1''⟩, cE, c0, cQ, cA⟩ := hB
  have be := b1.2
  obtain ⟨F0, D0, f1, f2, f3, f4, f5, f6, f7, f8, f9⟩ := cE j hj
  obtain ⟨z, ez⟩ : ∃ z, z = tZ T := ⟨_, rfl⟩
  have h1 := h.tz (z := z + 1) (by omega)
  obtain ⟨T1, hT1⟩ : ∃ T1, T1 = tz T (z + 1) := ⟨_, rfl⟩
  rw [← hT1] at h1
  have z1 : tZ T1 = z + 1 := by rw [hT1]; rfl
  obtain ⟨A1, hA1⟩ : ∃ A1 : Nat → List Int32, A1 = u1 A z (List.replicate 30 0) := ⟨_, rfl⟩
  have o1 : ∀ y, y < 80 → A1 y = A y := fun y hy => by rw [hA1]; exact u1_n _ _ (by omega)
  have hB1 : BkI m A1 e0 n0 td t := hB'.of Mw.id (fun y h1 h2 => o1 y (by omega)) (by rw [o1 79 (by omega)]; exact l79) (by rw [o1 79 (by omega)]) (by rw [o1 79 (by omega)]) (by rw [o1 79 (by omega)])
  have lz : (A1 z).length = 30 := by rw [hA1, u1_s]; rfl
  have e4 : (4 : Int32) + nI j = nI (4 + j) := nI_pl (a := 4) (by omega) (by omega)
  have e8 : 8 * nI j + nI k = nI (8 * j + k) := n8 (by omega)
  have hb0 := hb.1
  have hb0' := hb.2
  have hb1 : 1 ≤ bc ∧ 30 ≤ bs := ⟨Nat.le_trans (by decide) hb0, Nat.le_trans (by decide) hb0'⟩
  have k18 : 18 * as.length ≤ 540 := Nat.mul_le_mul_left 18 h30
  have k108 : 108 * as.length ≤ 3240 := Nat.mul_le_mul_left 108 h30
  have start : l_13041_J451 0 74 75 76 77 78 79 x7 x8 x9 (nI j) (nI k) bc bs (T, A) = l_13041_L475 40 0 74 75 76 77 78 79 x7 x8 x9 (nI j) (nI k) (nI (8 * j + k)) 0 z (nI 0) (bc - 1) (bs - 30) (T1, A1) := by
    unfold l_13041_J451
    rw [gd_e hb1, e8, bS_eq]
    have eN : lNew (T, A) 30 = (T1, A1) := by
      rw [hT1, hA1, ez]
      rfl
    rw [eN, ← show z = tZ (T, A).1 from ez]
    rfl
  -- the marks before, for any choice
  have go : ∀ F : Nat → Int32, (∀ l, l < as.length → f_12098 (nI l) m = some (F l)) → ∃ A2 bc2 bs2, (∀ y, y < 80 → A2 y = A y) ∧ (A2 z).length = 30 ∧ (∀ i, i < as.length → (A2 z).getD i 0 = F i) ∧ 600 ≤ bc2 ∧ 3400 ≤ bs2 ∧ BkI m A2 e0 n0 td t ∧ xg (A2 79) 1 ≤ nI as.length ∧ vi 1 (A2 79).length ∧ l_13041_J451 0 74 75 76 77 78 79 x7 x8 x9 (nI j) (nI k) bc bs (T, A) = l_13041_L475 (0 + 1) 0 74 75 76 77 78 79 x7 x8 x9 (nI j) (nI k) (nI (8 * j + k)) 0 z (nI as.length) bc2 bs2 (T1, A2) := fun F hF => by
    have hc1 : 18 * as.length ≤ bc - 1 := Nat.le_trans k18 (Nat.le_sub_of_add_le (Nat.le_trans (by decide) hb0))
    have hc2 : 108 * as.length ≤ bs - 30 := Nat.le_trans k108 (Nat.le_sub_of_add_le (Nat.le_trans (by decide) hb0'))
    obtain ⟨A2, bc2, bs2, g1, g2, g3, g4, g5, g6⟩ := sw_475 (e0 := e0) (td := td) (t := t) (x7 := x7) (x8 := x8) (x9 := x9) (x10 := nI j) (x11 := nI k) (x12 := nI (8 * j + k)) (x13 := 0) (z := z) h1 en hF (by omega) as.length 40 0 (bc - 1) (bs - 30) A1 (by omega) (by omega) hB1 lz (fun i hi => absurd hi (by omega)) hc1 hc2
    have o2 : ∀ y, y < 80 → A2 y = A y := fun y hy => (g1 y (by omega)).trans (o1 y hy)
    have hB2 : BkI m A2 e0 n0 td t := hB'.of Mw.id (fun y h1 h2 => o2 y (by omega)) (by rw [o2 79 (by omega)]; exact l79) (by rw [o2 79 (by omega)]) (by rw [o2 79 (by omega)]) (by rw [o2 79 (by omega)])
    have x1 : xg (A2 79) 1 = nI as.length := by
      show xg (A2 79) (nI 1) = _
      rw [xg_n (by omega), o2 79 (by omega), c1', en]
    have v1 : vi 1 (A2 79).length := by rw [o2 79 (by omega), l79]; exact vi_n (i := 1) (by omega) (by omega)
    refine ⟨A2, bc2, bs2, o2, g2, g3, Nat.le_of_add_le_add_right (b := 540) (Nat.le_trans (Nat.le_sub_of_add_le (Nat.le_trans (by decide) hb0)) (Nat.le_trans g4 (Nat.add_le_add_left k18 bc2))), Nat.le_of_add_le_add_right (b := 3240) (Nat.le_trans (Nat.le_sub_of_add_le (Nat.le_trans (by decide) hb0')) (Nat.le_trans g5 (Nat.add_le_add_left k108 bs2))), hB2, by rw [x1]; exact (nI_gle (by omega) (by omega)).2 (Nat.le_refl _), v1, start.trans g6⟩
  have x4 : ∀ A2 : Nat → List Int32, (∀ y, y < 80 → A2 y = A y) → xg (A2 77) (4 + nI j) = nI (t j) ∧ vi (4 + nI j) (A2 77).length := fun A2 o2 => by
    rw [o2 77 (by decide), e4, xg_n (by omega), f9, l77]
    exact ⟨rfl, vi_n (by omega) (by omega)⟩
  by_cases c0 : t j = 0
  · have ek : k = 0 := by
      rcases hk with y | y
      · omega
      · exact y.2
    subst ek
    obtain ⟨F, hF⟩ := ch_n (P := fun i r => f_12098 (nI i) m = some r) (n := as.length) (fun i hi => by
      obtain ⟨M, p1, p2⟩ := h.mrk hi
      exact ⟨M, p2⟩)
    obtain ⟨A2, bc2, bs2, o2, g2, g3, p4, p5, g6, y1, w1', g7⟩ := go F hF
    obtain ⟨y4, w4⟩ := x4 A2 o2
    have hc1 : 4 ≤ bc2 ∧ 40 ≤ bs2 := ⟨Nat.le_trans (by decide) p4, Nat.le_trans (by decide) p5⟩
    have e12 : h_13012 0 (nI j) (nI 0) T1 = some (T1, -1000001) := by
      unfold h_13012
      rw [show h_11017 0 (nI j) (nI 0) T1 = some (T1, .inl 2) from c_wdrG h1 (by omega) (by rw [← et j hj]; exact c0)]
      rfl
    refine ⟨T1, A2, m, e0, n0, td, t, ?_, ⟨_, _, _, _, _, _, _, _, h1, by omega⟩, g6, by rw [o2 79 (by decide)], by omega⟩
    rw [g7, l_13041_L475]
    show gd (vi 1 (A2 79).length) (if xg (A2 79) 1 ≤ nI as.length then gd (tK T1 0 = 12) (gd (4 ≤ bc2 ∧ 40 ≤ bs2) (bO (h_13012 0 (nI j) (nI 0) T1) _)) else _) = _
    rw [gd_e w1', if_pos y1, gd_e h1.1.1, gd_e hc1, e12, bO_some, bS_eq]
    show gd (vi (4 + nI j) (A2 77).length) (if xg (A2 77) (4 + nI j) = 0 then _ else gd (vi (nI (8 * j + 0)) (A2 74).length) (if xg (A2 74) (nI (8 * j + 0)) ≤ 15 then _ else _)) = _
    rw [gd_e w4, y4, c0, if_pos (show nI 0 = 0 from rfl)]
    unfold l_13041_J536 l_13041_J555
    show gd (vi (4 + nI j) (A2 77).length) (if xg (A2 77) (4 + nI j) = 0 then _ else _) = _
    rw [gd_e w4, y4, c0, if_pos (show nI 0 = 0 from rfl), if_pos rfl]
    rfl
  · have hk' : k < t j := by
      rcases hk with y | y
      · exact y
      · omega
    have ht := et j hj
    have nz : ¬ nI (t j) = 0 := fun y => by have := (nI_eq (b := 0) (by omega) (by omega)).1 y; omega
    obtain ⟨W, G, c, u, v, g1, g2, g3, g4, g5, q6, q7, q8, q9, q10, q11, q12, q13, q14, q15⟩ := cQ j k hj hk'
    have y74 : ∀ A2 : Nat → List Int32, (∀ y, y < 80 → A2 y = A y) → xg (A2 74) (nI (8 * j + k)) = nI (W + 16 * G) ∧ vi (nI (8 * j + k)) (A2 74).length := fun A2 o2 => by
      rw [o2 74 (by decide), xg_n (by omega), q6, l74]
      exact ⟨rfl, vi_n (by omega) (by omega)⟩
    by_cases cG : G = 0
    · subst cG
      obtain ⟨T', mW, F, G, hmW, hF, hG, w1, w2, w3⟩ := c_wdr2 h1 (by omega) (by omega) (g4.trans rfl)
      obtain ⟨A2, bc2, bs2, o2, p2, p3, p4, p5, p6, y1, w1', p7⟩ := go F hF
      obtain ⟨y4, w4⟩ := x4 A2 o2
      obtain ⟨y7, w7⟩ := y74 A2 o2
      have hc1 : 4 ≤ bc2 ∧ 40 ≤ bs2 := ⟨Nat.le_trans (by decide) p4, Nat.le_trans (by decide) p5⟩
      have e12 : h_13012 0 (nI j) (nI k) T1 = some (T', wdF F G as.length 0 0) := by
        unfold h_13012
        rw [w1]
        rfl
      have hBw := p6.wdr hj hk' rfl ⟨g1, g2, g3⟩
      rw [← hmW] at hBw
      obtain ⟨A3, hA3⟩ : ∃ A3 : Nat → List Int32, A3 = u1 A2 74 ((A2 74).set (8 * j + k) (nI (W + 16 * 1))) := ⟨_, rfl⟩
      rw [← hA3] at hBw
      have o3 : ∀ y, y ≠ 74 → A3 y = A2 y := fun y hy => by rw [hA3]; exact u1_n _ _ hy
      have hc2 : 18 * as.length + 4 ≤ bc2 - 4 := Nat.le_sub_of_add_le (Nat.le_trans (Nat.add_le_add_right k18 8) (Nat.le_trans (by decide) p4))
      have hc3 : 108 * as.length + 40 ≤ bs2 - 40 := Nat.le_sub_of_add_le (Nat.le_trans (Nat.add_le_add_right k108 80) (Nat.le_trans (by decide) p5))
      have fin := sw_576 (x7 := x7) (x8 := x8) (x9 := x9) (x12 := nI (8 * j + k)) (z := z) (F := F) (G := G) (told := wdF F G as.length 0 0) w2 en hBw hG (by rw [o3 z (by omega)]; exact p2) (fun i hi => by rw [o3 z (by omega)]; exact p3 i hi) hj hk' (by rw [hmW, ms_s (by omega)]; dsimp only; rw [if_pos rfl]; decide) as.length 40 0 (bc2 - 4) (bs2 - 40) 0 (by omega) (by omega) rfl hc2 hc3
      refine ⟨T', A3, mW, e0, n0, td, t, ?_, ⟨_, _, _, _, _, _, _, _, w2, by omega⟩, hBw, by rw [o3 79 (by decide), o2 79 (by decide)], by omega⟩
      have e16 : nI (W + 16 * 0) + 16 = nI (W + 16 * 1) := nI_pl (b := 16) (by omega) (by omega)
      rw [p7, l_13041_L475]
      show gd (vi 1 (A2 79).length) (if xg (A2 79) 1 ≤ nI as.length then gd (tK T1 0 = 12) (gd (4 ≤ bc2 ∧ 40 ≤ bs2) (bO (h_13012 0 (nI j) (nI k) T1) _)) else _) = _
      rw [gd_e w1', if_pos y1, gd_e h1.1.1, gd_e hc1, e12, bO_some, bS_eq]
      show gd (vi (4 + nI j) (A2 77).length) (if xg (A2 77) (4 + nI j) = 0 then _ else gd (vi (nI (8 * j + k)) (A2 74).length) (if xg (A2 74) (nI (8 * j + k)) ≤ 15 then gd (vi (nI (8 * j + k)) (A2 74).length) (gd (vi (nI (8 * j + k)) (A2 74).length) (bS (lSet (T', A2) 74 (nI (8 * j + k)) (xg (A2 74) (nI (8 * j + k)) + 16)) _)) else _)) = _
      rw [gd_e w4, y4, if_neg nz, gd_e w7, y7, if_pos (show nI (W + 16 * 0) ≤ 15 from (nI_gle (b := 15) (by omega) (by omega)).2 (by omega)), gd_e w7, gd_e w7, e16, lSet_e (by omega), ← hA3, bS_eq]
      exact fin
    · have eG : G = 1 := by omega
      subst eG
      obtain ⟨F, hF⟩ := ch_n (P := fun i r => f_12098 (nI i) m = some r) (n := as.length) (fun i hi => by
        obtain ⟨M, p1, p2⟩ := h.mrk hi
        exact ⟨M, p2⟩)
      obtain ⟨A2, bc2, bs2, o2, p2, p3, p4, p5, p6, y1, w1', p7⟩ := go F hF
      obtain ⟨y4, w4⟩ := x4 A2 o2
      obtain ⟨y7, w7⟩ := y74 A2 o2
      have hc1 : 4 ≤ bc2 ∧ 40 ≤ bs2 := ⟨Nat.le_trans (by decide) p4, Nat.le_trans (by decide) p5⟩
      have e12 : h_13012 0 (nI j) (nI k) T1 = some (T1, -1000003) := by
        unfold h_13012
        rw [c_wdrF h1 (by omega) (by omega) (by rw [g4]; decide)]
        rfl
      refine ⟨T1, A2, m, e0, n0, td, t, ?_, ⟨_, _, _, _, _, _, _, _, h1, by omega⟩, p6, by rw [o2 79 (by decide)], by omega⟩
      rw [p7, l_13041_L475]
      show gd (vi 1 (A2 79).length) (if xg (A2 79) 1 ≤ nI as.length then gd (tK T1 0 = 12) (gd (4 ≤ bc2 ∧ 40 ≤ bs2) (bO (h_13012 0 (nI j) (nI k) T1) _)) else _) = _
      rw [gd_e w1', if_pos y1, gd_e h1.1.1, gd_e hc1, e12, bO_some, bS_eq]
      show gd (vi (4 + nI j) (A2 77).length) (if xg (A2 77) (4 + nI j) = 0 then _ else gd (vi (nI (8 * j + k)) (A2 74).length) (if xg (A2 74) (nI (8 * j + k)) ≤ 15 then _ else _)) = _
      rw [gd_e w4, y4, if_neg nz, gd_e w7, y7, if_neg (show ¬ nI (W + 16 * 1) ≤ 15 from fun y => by have := (nI_gle (b := 15) (by omega) (by omega)).1 y; omega)]
      unfold l_13041_J536 l_13041_J555
      show gd (vi (4 + nI j) (A2 77).length) (if xg (A2 77) (4 + nI j) = 0 then _ else _) = _
      rw [gd_e w4, y4, if_neg nz, if_pos rfl]
      rfl
end SCW
