/-! the pass over calls, all of it; and over operands -/
section PXD
variable {s s1 s' : Sx} {a a1 a' c c1 c' k k1 k' e L : Nat}
theorem PX.hd {R : Rw} {Q : Nat → Nat → Nat → Prop} : ∀ (n : Nat) {g j o L i i' c c' : Nat}, PX R Q n g j o L i i' c c' → (g = 0 ∨ g = 2 ∨ g = 3) → R.1 i = 3 ∨ R.1 i = 9 ∨ R.1 i = 34 ∨ R.1 i = 28 ∨ R.1 i = 25 ∨ R.1 i = 26 ∨ R.1 i = 36 ∨ R.1 i = 35 := by
  intro n
  induction n with
  | zero => intro g j o L i i' c c' h; exact h.elim
  | succ n ih =>
    intro g j o L i i' c c' hP hg
    have hP : PF R Q (PX R Q n) g j o L i i' c c' := hP
    unfold PF at hP
    rcases hg with hg | hg | hg
    · rw [if_pos hg] at hP
      rcases hP with ⟨q, i1, c1, h1, h2⟩ | ⟨q, h1⟩
      · exact ih h1 (Or.inl rfl)
      · exact ih h1 (Or.inr (Or.inl rfl))
    · rw [if_neg (by omega), if_neg (by omega), if_pos hg] at hP
      rcases hP with q | q | q | ⟨q1, _⟩ | ⟨q1, _⟩ | h1
      · exact Or.inl q.1
      · exact Or.inr (Or.inl q.1)
      · exact Or.inr (Or.inr (Or.inl q.1))
      · exact Or.inr (Or.inr (Or.inr (Or.inl q1)))
      · rcases q1 with q1 | q1 | q1
        · exact Or.inr (Or.inr (Or.inr (Or.inr (Or.inl q1))))
        · exact Or.inr (Or.inr (Or.inr (Or.inr (Or.inr (Or.inl q1)))))
        · exact Or.inr (Or.inr (Or.inr (Or.inr (Or.inr (Or.inr (Or.inl q1))))))
      · exact ih h1 (Or.inr (Or.inr rfl))
    · rw [if_neg (by omega), if_neg (by omega), if_neg (by omega), if_pos hg] at hP
      exact Or.inr (Or.inr (Or.inr (Or.inr (Or.inr (Or.inr (Or.inr hP.1))))))
theorem PX.n29 {R : Rw} {Q : Nat → Nat → Nat → Prop} {n j o L i i' c c' : Nat} (h : PX R Q n 0 j o L i i' c c') : R.1 i ≠ 29 := by
  intro q
  have := PX.hd n h (Or.inl rfl)
  rw [q] at this
  revert this
  decide
def opn (s : Sx) : Sx := au_sk 38 (au_nx (au_sk 35 (au_ca 17 0 (au_ca 16 0 (au_ca 15 (s.2 2) s)))))
theorem opn_J {p : Nat × Nat × Nat × Prop} (h : JM p s) : JM p (f_5007 (opn s)) :=
  JM.op (JM.B (JM.v (JM.B (JM.B (JM.B h.ca (by decide)) (by decide)) (by decide)) (by decide)) (by decide))
theorem d21_open (hL : Lv a e L s) (hl : Ln s c k) (hN : Nl s) (hv : (s.1 1).length = e + 1) (h4 : au_ko s = 4) (h28 : xg (s.1 0) (s.2 2 + 1) = 28) (hk : k < 150) (h8 : L < 8) :
    Fx s (au_up (opn s)) a c k ∧ PI (a + 2) e (L + 1) c (k + 1) (au_up (opn s)) ∧ ((au_up (opn s)).1 15).getD k 0 = nI a ∧ (rw4 (au_up (opn s))).1 a = 35 ∧ (rw4 (au_up (opn s))).1 (a + 1) = 38 ∧ a + 2 ≤ e := by
  have he := hL.2.2.2.2.1
  have hae := hL.lt (by rw [h4]; decide)
  have hae1 := nx_ko hL hae (by rw [h28]; decide)
  obtain ⟨l1, l2, l3, l4, l5⟩ := hl
  have hLc := cl0 hL hae
  have hL2 : Lv (a + 2) e (L + 1) (au_up (opn s)) := (hLc.sk (x := 38) hae1 (by decide)).up hae1 h8
  have e0 : (au_up (opn s)).1 0 = ((s.1 0).set a 35).set (a + 1) 38 := by
    show xset (xset (s.1 0) (s.2 2) 35) (s.2 2 + 1) 38 = _
    rw [hL.2.1, xset_n (by omega), nI_1, xset_n (by omega)]
  have e15 : (au_up (opn s)).1 15 = s.1 15 ++ [nI a] := by
    show xadd 150 (s.1 15) (s.2 2) = _
    rw [hL.2.1, xadd_e (by omega)]
  have e16 : (au_up (opn s)).1 16 = s.1 16 ++ [0] := xadd_e (show (s.1 16).length < 150 by omega)
  have e17 : (au_up (opn s)).1 17 = s.1 17 ++ [0] := xadd_e (show (s.1 17).length < 150 by omega)
  have ej : ∀ j, j ≠ 0 → j ≠ 15 → j ≠ 16 → j ≠ 17 → (au_up (opn s)).1 j = s.1 j := fun j h1 h2 h3 h4 => by
    show (if j = 0 then _ else if j = 0 then _ else if j = 17 then _ else if j = 16 then _ else if j = 15 then _ else s.1 j) = _
    rw [if_neg h1, if_neg h1, if_neg h4, if_neg h3, if_neg h2]
  have h0l : (s.1 0).length = e + 1 := hL.2.2.2.2.2.1
  refine ⟨⟨?_, fun x hx => ?_, fun x hx => ?_, fun x hx => ?_, fun q hq => ?_, fun j h1 h2 => ej j (by omega) (by omega) (by omega) (by omega)⟩, ⟨hL2, ⟨?_, ?_, ?_, ?_, ?_⟩, ?_, ?_⟩, ?_, ?_, ?_, hae1⟩
  · rw [ej 1 (by decide) (by decide) (by decide) (by decide)]
  · rw [ej 1 (by decide) (by decide) (by decide) (by decide), e0, gD_set_n (by omega), gD_set_n (by omega)]; exact ⟨rfl, rfl⟩
  · rw [e0]
    by_cases q : a + 1 = x
    · rw [← q, gD_set_s (by rw [List.length_set]; omega)]; decide
    · rw [gD_set_n q]
      by_cases q2 : a = x
      · rw [← q2, gD_set_s (by omega)]; decide
      · rw [gD_set_n q2]; exact hx
  · rw [ej 7 (by decide) (by decide) (by decide) (by decide), ej 8 (by decide) (by decide) (by decide) (by decide)]; exact ⟨rfl, rfl⟩
  · rw [e15, e16, e17, gD_app_l (by omega), gD_app_l (by omega), gD_app_l (by omega)]; exact ⟨rfl, rfl, rfl⟩
  · rw [ej 7 (by decide) (by decide) (by decide) (by decide)]; exact l1
  · rw [ej 8 (by decide) (by decide) (by decide) (by decide)]; exact l2
  · rw [e15, List.length_append, l3]; rfl
  · rw [e16, List.length_append, l4]; rfl
  · rw [e17, List.length_append, l5]; rfl
  · unfold Nl
    rw [ej 13 (by decide) (by decide) (by decide) (by decide), ej 14 (by decide) (by decide) (by decide) (by decide)]; exact hN
  · rw [ej 1 (by decide) (by decide) (by decide) (by decide)]; exact hv
  · rw [e15, ← l3, gD_app_r]
  · show ((au_up (opn s)).1 0).getD a 0 = 35
    rw [e0, gD_set_n (by omega), gD_set_s (by omega)]
  · show ((au_up (opn s)).1 0).getD (a + 1) 0 = 38
    rw [e0, gD_set_s (by rw [List.length_set]; omega)]
theorem d21 {n : Nat} (h18 : D18 n) : D21 (n + 1) := by
  intro a e L c k s s' ⟨hL, hl, hN, hv⟩ h4 h28 h hC
  have he := hL.2.2.2.2.1
  rw [rd_21, call_eq] at h
  have h : (if au_ko (f_5007 (opn s)) = 29 then f_5021_J142 (f_rd n) (nI (s.1 15).length) (nI 0) (f_5007 (opn s)) else bOv (f_rd n 5018 (nI 1) (f_5007 (opn s))) fun s21 => f_5021_L102 (f_rd n) 400 (nI (s.1 15).length) (nI 0 + 1) 0 s21) = some s' := h
  have c18 : Cap (f_5007 (opn s)) := hC.bk h (fun p h => HS.ite (fun _ => JM.J142 h) (fun _ => HS.bOv (JM.rd n _ _ _ h) (fun s21 h21 => JM.L102 (JM.rd n) _ _ _ _ _ h21)))
  have c0 : Cap s := c18.b1 (fun p h => opn_J h)
  obtain ⟨h8, e8⟩ := op_ok c18.1
  have h8' : L < 8 := hL.l8.1 h8
  rw [e8] at h
  obtain ⟨hF, ⟨hL2, hl2, hN2, hv2⟩, h15, hK, hK1, hae2⟩ := d21_open hL hl hN hv h4 h28 (by have := c0.2.2; rw [hl.2.2.1] at this; exact this) h8'
  have hk : k < 150 := by have := c0.2.2; rw [hl.2.2.1] at this; exact this
  have hc : c < 600 := by have := c0.2.1; rw [hl.1] at this; exact this
  rw [hl.2.2.1] at h
  by_cases q29 : au_ko (au_up (opn s)) = 29
  · rw [if_pos q29] at h
    have sg0 : Sg (au_up (opn s)) (au_up (opn s)) (a + 2) (a + 2) c c (k + 1) (k + 1) := Sg.i rfl hl2 (Nat.le_refl _) (by omega) (by omega)
    obtain ⟨w1, w2, w3, w4, w5, w6, w7, w8, w9, w10⟩ := d21_end hF hl h15 sg0 (by omega) h hC hL2 hK
    refine ⟨a + 3, c + 1, k + 1, 1, w3, by omega, ⟨by rw [w8 13 (by decide) (by decide) (by decide) (by decide)]; exact hN2.1, by rw [w8 14 (by decide) (by decide) (by decide) (by decide)]; exact hN2.2⟩, w7, w2, PX1 ?_⟩
    unfold PF
    rw [if_neg (by decide), if_neg (by decide), if_neg (by decide), if_pos rfl]
    exact ⟨by rw [w6]; exact hK, by rw [w6]; exact hK1, h8', Or.inl ⟨by rw [w6, ← hL2.ka]; exact q29, rfl, w4, rfl, w5⟩⟩
  · rw [if_neg q29] at h
    obtain ⟨s2, e2⟩ := bOv_ex h
    have h := bOv_go h e2
    rw [nI_1] at h
    have c2 : Cap s2 := hC.bk h (fun p h => JM.L102 (JM.rd n) _ _ _ _ _ h)
    obtain ⟨a2, cq, kq, N1, g1, g2, g3, g4, g5, g6⟩ := h18 1 (by omega) (by omega) (a + 2) e (L + 1) c (k + 1) _ s2 ⟨hL2, hl2, hN2, hv2⟩ e2 c2
    have b2 := g5.1
    obtain ⟨z, a3, c3, k3, w, N2, y0, y1, y2, y3, y4, y5, y6⟩ := d21_loop h18 400 (0 + 1) _ a2 cq kq s2 s' ⟨g1, g5.ln, g3, g5.l1.trans hv2⟩ h hC
    have b3 := y5.1
    obtain ⟨w1, w2, w3, w4, w5, w6, w7, w8, w9, w10⟩ := d21_end hF hl h15 (g5.tr y5) (by omega) y0 hC y1 hK
    have p1 := PX.sg (k0 := k + 1) (k3 := k3) g6 y5.F (Nat.le_refl _) (Nat.le_refl _) (Nat.le_refl _) (Nat.le_refl _) (by omega)
    have p2 := PX.ag (Q' := Qs s' k k3) w10 N1 p1 (w9.sub (Nat.le_refl _) (by omega) (Nat.le_refl _) (by omega) (by omega))
    have y6' := PX.ag (R' := rw4 z) (Q' := Qs z (k + 1) k3) (fun i c n q => q.w (by omega) (Nat.le_refl _)) N2 y6 ⟨fun _ _ _ => ⟨rfl, fun _ => rfl⟩, fun q => q, fun _ _ _ => ⟨rfl, fun _ => rfl⟩⟩
    have p3 := PX.ag (Q' := Qs s' k k3) w10 N2 y6' (w9.sub (by omega) (Nat.le_refl _) (by omega) (Nat.le_refl _) (by omega))
    have hKF : (rw4 s').1 a = 35 ∧ (rw4 s').1 (a + 1) = 38 := by
      rw [w6, (g5.tr y5).K (by omega), (g5.tr y5).K (by omega)]
      exact ⟨hK, hK1⟩
    refine ⟨a3 + 1, c3 + 1, k3, (N1 + N2) + 1, w3, by omega, ⟨by rw [w8 13 (by decide) (by decide) (by decide) (by decide)]; exact y3.1, by rw [w8 14 (by decide) (by decide) (by decide) (by decide)]; exact y3.2⟩, ?_, w2, PX1 ?_⟩
    · rw [w7, y4, g4]
      rfl
    unfold PF
    rw [if_neg (by decide), if_neg (by decide), if_neg (by decide), if_pos rfl]
    refine ⟨hKF.1, hKF.2, h8', Or.inr ⟨w, a2, cq, a3, c3, p2.up (by omega), p3.up (by omega), ?_, p2.n29, rfl, w4, rfl, ?_⟩⟩
    · rw [w6, ← y1.ka]
      exact w1
    · rw [show w + 1 = 0 + 1 + w by omega]
      exact w5
theorem d19 {n : Nat} (h18 : D18 n) (h20 : D20 n) (h21 : D21 n) : D19 (n + 1) := by
  intro a e L c k s s' ⟨hL, hl, hN, hv⟩ h hC
  have he := hL.2.2.2.2.1
  have hle := hL.2.2.2.1
  rw [rd_19] at h
  unfold f_5019 at h
  have hko : f_5003 s = au_ko s := rfl
  rw [hko] at h
  by_cases k3 : au_ko s = 3
  · rw [if_pos k3] at h
    have hae := hL.lt (by rw [k3]; decide)
    have h : some (au_nx (au_cd 1 (xg (s.1 1) (s.2 2)) s)) = some s' := h
    cases h
    have cc : Cap (au_cd 1 (xg (s.1 1) (s.2 2)) s) := hC.b1 (fun p h => JM.v h (by decide))
    obtain ⟨sg, q1, q2⟩ := Sg.cd (s := s) (x := 1) (y := xg (s.1 1) (s.2 2)) (a := a) hl (cc.cd hl) (by omega)
    have sg2 : Sg (au_cd 1 (xg (s.1 1) (s.2 2)) s) (au_nx (au_cd 1 (xg (s.1 1) (s.2 2)) s)) a (a + 1) (c + 1) (c + 1) k k := Sg.i rfl sg.ln (by omega) (by omega) (cc.cd hl)
    refine ⟨a + 1, c + 1, k, 1, (hL.co Co_cd).nx hae, Nat.le_refl _, hN, rfl, sg.tr sg2, PX1 ?_⟩
    unfold PF
    rw [if_neg (by decide), if_neg (by decide), if_pos rfl]
    refine Or.inl ⟨hL.ka.symm.trans k3, rfl, rfl, q1, ?_⟩
    refine Eq.trans q2 ?_
    rw [hL.2.1, xg_n (by omega)]
    rfl
  rw [if_neg k3] at h
  by_cases k4 : au_ko s = 4
  · rw [if_pos k4] at h
    by_cases k28 : xg (s.1 0) (s.2 2 + 1) = 28
    · rw [if_pos k28] at h
      obtain ⟨s1, e1⟩ := bOv_ex h
      have h := bOv_go h e1
      cases h
      obtain ⟨a', c', k', N, g1, g2, g3, g4, g5, g6⟩ := h21 a e L c k s s' ⟨hL, hl, hN, hv⟩ k4 k28 e1 hC
      refine ⟨a', c', k', N + 1, g1, g2, g3, g4, g5, PX1 ?_⟩
      unfold PF
      rw [if_neg (by decide), if_neg (by decide), if_pos rfl]
      exact Or.inr (Or.inr (Or.inr (Or.inr (Or.inr g6))))
    · rw [if_neg k28] at h
      have hae := hL.lt (by rw [k4]; decide)
      have h : some (au_cd 2 (f_5022 (f_5004 s) s).2 (f_5022 (f_5004 s) s).1) = some s' := h
      cases h
      have cc : Cap (f_5022 (f_5004 s) s).1 := hC.b1 (fun p h => JM.cd h)
      have c0 : Cap s := cc.b1 (fun p h => JM.var h (names_lt2 s))
      have hc : c < 600 := by have := c0.2.1; rw [hl.1] at this; exact this
      obtain ⟨sg, g1, g2, g3, g4, v, hv8, g5, g6⟩ := Sg.var (names_lt2 s) hL hae hl hN hv (by omega) cc.1
      obtain ⟨sg2, q1, q2⟩ := Sg.cd (s := (f_5022 (f_5004 s) s).1) (x := 2) (y := (f_5022 (f_5004 s) s).2) (a := a + 1) sg.ln hc (by omega)
      refine ⟨a + 1, c + 1, k, 1, g1.co Co_cd, Nat.le_refl _, g2, g3, sg.tr sg2, PX1 ?_⟩
      unfold PF
      rw [if_neg (by decide), if_neg (by decide), if_pos rfl]
      refine Or.inr (Or.inr (Or.inl ⟨g4, rfl, rfl, q1, ?_, v, hv8, g5⟩))
      exact q2.trans (g6.trans g5.symm)
  rw [if_neg k4] at h
  by_cases k9 : au_ko s = 9
  · rw [if_pos k9] at h
    have hae := hL.lt (by rw [k9]; decide)
    have h : some (au_nx (au_cd 5 0 s)) = some s' := h
    cases h
    have cc : Cap (au_cd 5 0 s) := hC.b1 (fun p h => JM.v h (by decide))
    obtain ⟨sg, q1, q2⟩ := Sg.cd (s := s) (x := 5) (y := 0) (a := a) hl (cc.cd hl) (by omega)
    have sg2 : Sg (au_cd 5 0 s) (au_nx (au_cd 5 0 s)) a (a + 1) (c + 1) (c + 1) k k := Sg.i rfl sg.ln (by omega) (by omega) (cc.cd hl)
    refine ⟨a + 1, c + 1, k, 1, (hL.co Co_cd).nx hae, Nat.le_refl _, hN, rfl, sg.tr sg2, PX1 ?_⟩
    unfold PF
    rw [if_neg (by decide), if_neg (by decide), if_pos rfl]
    exact Or.inr (Or.inl ⟨hL.ka.symm.trans k9, rfl, rfl, q1⟩)
  rw [if_neg k9] at h
  by_cases k13 : au_ko s = 13
  · rw [if_pos k13] at h
    have hae := hL.lt (by rw [k13]; decide)
    have h : bOv (f_rd n 5020 0 (au_sk 36 s)) (fun s15 => some s15) = some s' := h
    obtain ⟨s1, e1⟩ := bOv_ex h
    have h := bOv_go h e1
    cases h
    have c0 := hC.bk e1 (rd_J n _ _ _)
    have hc : c < 600 := by
      have := c0.2.1
      have h2 : (s.1 7).length < 600 := this
      rw [hl.1] at h2; exact h2
    obtain ⟨sg, q1⟩ := Sg.sk (s' := au_sk 36 s) (x := 36) (a1 := a) hl hL hae (by decide) (by omega) rfl (Nat.le_refl _) (by omega)
    obtain ⟨a', c', k', N, g1, g2, g3, g4, g5, g6⟩ := h20 a e L c k (au_sk 36 s) s' ⟨hL.sk hae (by decide), sg.ln, hN, sg.l1.trans hv⟩ (Or.inr (Or.inr (sk_ko hL))) e1 hC
    exact ⟨a', c', k', N, g1, g2, g3, g4, sg.tr g5, g6⟩
  rw [if_neg k13] at h
  by_cases k25 : au_ko s = 25
  · rw [if_pos k25] at h
    obtain ⟨s1, e1⟩ := bOv_ex h
    have h := bOv_go h e1
    cases h
    exact h20 a e L c k s s' ⟨hL, hl, hN, hv⟩ (Or.inl k25) e1 hC
  rw [if_neg k25] at h
  by_cases k26 : au_ko s = 26
  · rw [if_pos k26] at h
    obtain ⟨s1, e1⟩ := bOv_ex h
    have h := bOv_go h e1
    cases h
    exact h20 a e L c k s s' ⟨hL, hl, hN, hv⟩ (Or.inr (Or.inl k26)) e1 hC
  rw [if_neg k26] at h
  by_cases k28 : au_ko s = 28
  · rw [if_pos k28] at h
    have hae := hL.lt (by rw [k28]; decide)
    have h : bOv (f_rd n 5018 (nI 1) (f_5007 s)) (fun s19 => some (au_dn (f_5006 29 s19))) = some s' := h
    obtain ⟨s2, e2⟩ := bOv_ex h
    have h := bOv_go h e2
    cases h
    have cx : Cap (f_5006 29 s2) := hC.b1 (fun p h => JM.v h (by decide))
    have c2 : Cap s2 := cx.b1 (fun p h => JM.ex h)
    have c1 : Cap (f_5007 s) := c2.bk e2 (rd_J n _ _ _)
    obtain ⟨h8, e8⟩ := op_ok c1.1
    have h8' := hL.l8.1 h8
    obtain ⟨x29, ex⟩ := ex_ok cx.1
    rw [e8] at e2 c1
    rw [ex]
    have hc : c < 600 := by
      have := c1.2.1
      have h2 : (s.1 7).length < 600 := this
      rw [hl.1] at h2; exact h2
    obtain ⟨a2, cq, kq, N, g1, g2, g3, g4, g5, g6⟩ := h18 1 (by omega) (by omega) (a + 1) e (L + 1) c k _ s2 ⟨hL.up hae h8', hl, hN, hv⟩ e2 c2
    have b2 := g5.1
    have hae2 := g1.lt (by rw [x29]; decide)
    have hL3 := (g1.nx hae2).dn
    have sg1 : Sg s (au_up s) a (a + 1) c c k k := Sg.i rfl hl (by omega) (by omega) (by omega)
    have sg3 : Sg s2 (au_dn (au_nx s2)) a2 (a2 + 1) cq cq kq kq := Sg.i rfl g5.ln (by omega) (by have := g1.2.2.2.2.1; omega) (by omega)
    have sgT := (sg1.tr g5).tr sg3
    refine ⟨a2 + 1, cq, kq, N + 1, hL3, by omega, g3, g4, sgT, PX1 ?_⟩
    have kA : (rw4 (au_dn (au_nx s2))).1 a = 28 := by
      show (rw4 s2).1 a = 28
      rw [g5.K (by omega), ← k28, hL.ka]
      rfl
    unfold PF
    rw [if_neg (by decide), if_neg (by decide), if_pos rfl]
    exact Or.inr (Or.inr (Or.inr (Or.inl ⟨kA, h8', a2, g6, g1.ka.symm.trans x29, rfl⟩)))
  rw [if_neg k28] at h
  have h : some (f_5005 3 (s.2 2) s) = some s' := h
  cases h
  exact absurd hC.1 (ref_n (by decide))
theorem dAll (n : Nat) : D18 n ∧ D19 n ∧ D20 n ∧ D21 n := by
  induction n with
  | zero =>
    refine ⟨?_, ?_, ?_, ?_⟩
    · intro j _ _ a e L c k s s' _ h; cases h
    · intro a e L c k s s' _ h; cases h
    · intro a e L c k s s' _ _ h; cases h
    · intro a e L c k s s' _ _ _ h; cases h
  | succ n ih =>
    obtain ⟨h1, h2, h3, h4⟩ := ih
    exact ⟨d18 h1 h2, d19 h1 h3 h4, d20 h2, d21 h1⟩
end PXD
