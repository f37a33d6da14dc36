/-! the pass over statements -/
section PXT
variable {s s1 s' : Sx} {a a1 a' c c1 c' k k1 k' e L : Nat}
def PS (j L a e c k : Nat) (s s' : Sx) : Prop := ∃ a' c' k' N, Lv a' e L s' ∧ a + 1 ≤ a' ∧ Nl s' ∧ s'.2 5 = s.2 5 ∧ Sg s s' a a' (c + 1) c' k k' ∧ PX (rw4 s') (Qs s' k k') N 6 j 0 L a a' c c'
/-- the end of a statement: its code, and ; -/
theorem stm_end {x y : Int32} (hL : Lv a e L s) (hl : Ln s c k) (hC : Cap (f_5006 33 (au_cd x y s))) : (rw4 s).1 a = 33 ∧ f_5006 33 (au_cd x y s) = au_nx (au_cd x y s) ∧ a < e ∧ Lv (a + 1) e L (au_nx (au_cd x y s)) ∧ Sg s (au_nx (au_cd x y s)) a (a + 1) c (c + 1) k k ∧ (rw4 (au_nx (au_cd x y s))).1 a = 33 ∧ (rw4 (au_nx (au_cd x y s))).2.2.1 c = x ∧ (rw4 (au_nx (au_cd x y s))).2.2.2 c = y := by
  have he := hL.2.2.2.2.1
  obtain ⟨q1, q2⟩ := ex_ok hC.1
  have q1 : au_ko s = 33 := q1
  have hae := hL.lt (by rw [q1]; decide)
  have cc : Cap (au_cd x y s) := hC.b1 (fun p h => JM.ex h)
  obtain ⟨sg, p1, p2⟩ := Sg.cd (s := s) (x := x) (y := y) (a := a) hl (cc.cd hl) (by omega)
  have sg2 : Sg (au_cd x y s) (au_nx (au_cd x y s)) a (a + 1) (c + 1) (c + 1) k k := Sg.i rfl sg.ln (by omega) (by omega) (cc.cd hl)
  have k33 : (rw4 s).1 a = 33 := by rw [← hL.ka]; exact q1
  exact ⟨k33, q2, hae, (hL.co Co_cd).nx hae, sg.tr sg2, k33, p1, p2⟩
theorem stm_J {p : Nat × Nat × Nat × Prop} {x y : Int32} (h : JM p s) : JM p (f_5006 33 (au_cd x y s)) := JM.ex (JM.cd h)
theorem pt09 {n j : Nat} (hP : PI a e L (c + 1) k s) (h0 : (rw4 s).2.2.1 c = 0) (h4 : au_ko s = 4) (h : f_5009 (f_rd n) s = some s') (hC : Cap s') : PS j L a e c k s s' := by
  obtain ⟨hL, hl, hN, hv⟩ := hP
  have he := hL.2.2.2.2.1
  have hae := hL.lt (by rw [h4]; decide)
  unfold f_5009 at h
  by_cases k28 : xg (s.1 0) (s.2 2 + 1) = 28
  · rw [if_pos k28] at h
    have h : bOv (f_rd n 5021 0 s) (fun s9 => some (f_5006 33 (au_cd 7 0 s9))) = some s' := h
    obtain ⟨s2, e2⟩ := bOv_ex h
    have h := bOv_go h e2
    cases h
    have c2 : Cap s2 := hC.b1 (fun p h => stm_J h)
    obtain ⟨a2, cq, kq, N, g1, g2, g3, g4, g5, g6⟩ := (dAll n).2.2.2 a e L (c + 1) k s s2 ⟨hL, hl, hN, hv⟩ h4 k28 e2 c2
    obtain ⟨q1, q2, q3, q4, q5, q6, q7, q8⟩ := stm_end g1 g5.ln hC
    rw [q2]
    refine ⟨a2 + 1, cq + 1, kq, N + 1, q4, by omega, g3, g4, g5.tr q5, PX1 ?_⟩
    have p1 := PX.sg (k0 := k) (k3 := kq) g6 q5.F (Nat.le_refl _) (Nat.le_refl _) (Nat.le_refl _) (Nat.le_refl _) (Nat.le_refl _)
    unfold PF
    rw [if_neg (by decide), if_neg (by decide), if_neg (by decide), if_neg (by decide), if_neg (by decide), if_pos rfl]
    exact Or.inr (Or.inr (Or.inr (Or.inr (Or.inl ⟨by rw [(g5.tr q5).C (by omega)]; exact h0, a2, cq, p1, q6, rfl, q7, rfl⟩))))
  · rw [if_neg k28] at h
    have h : bOv (f_rd n 5018 (nI 1) (f_5006 27 (f_5022 (f_5004 s) s).1)) (fun s6 => some (f_5006 33 (au_cd 3 (f_5022 (f_5004 s) s).2 s6))) = some s' := h
    obtain ⟨s2, e2⟩ := bOv_ex h
    have h := bOv_go h e2
    cases h
    have c2 : Cap s2 := hC.b1 (fun p h => stm_J h)
    have c5 : Cap (f_5006 27 (f_5022 (f_5004 s) s).1) := c2.bk e2 (rd_J n _ _ _)
    have c4 : Cap (f_5022 (f_5004 s) s).1 := c5.b1 (fun p h => JM.ex h)
    have c0 : Cap s := c4.b1 (fun p h => JM.var h (names_lt2 s))
    have hc : c + 1 < 600 := by have := c0.2.1; rw [hl.1] at this; exact this
    obtain ⟨sg, g1, g2, g3, g4, v, hv8, g5, g6⟩ := Sg.var (names_lt2 s) hL hae hl hN hv (by omega) c4.1
    obtain ⟨x27, ex⟩ := ex_ok c5.1
    rw [ex] at e2
    have hae1 := g1.lt (by rw [x27]; decide)
    have sg1 : Sg (f_5022 (f_5004 s) s).1 (au_nx (f_5022 (f_5004 s) s).1) (a + 1) (a + 2) (c + 1) (c + 1) k k := Sg.i rfl sg.ln (by omega) (by omega) (by omega)
    have sgA := sg.tr sg1
    obtain ⟨a2, cq, kq, N, w1, w2, w3, w4, w5, w6⟩ := (dAll n).1 1 (by omega) (by omega) (a + 2) e L (c + 1) k _ s2 ⟨g1.nx hae1, sgA.ln, g2, sgA.l1.trans hv⟩ e2 c2
    obtain ⟨q1, q2, q3, q4, q5, q6, q7, q8⟩ := stm_end w1 w5.ln hC
    have sgB := w5.tr q5
    rw [q2]
    refine ⟨a2 + 1, cq + 1, kq, N + 1, q4, by omega, w3, w4.trans g3, sgA.tr sgB, PX1 ?_⟩
    have p1 := PX.sg (k0 := k) (k3 := kq) w6 q5.F (Nat.le_refl _) (Nat.le_refl _) (Nat.le_refl _) (Nat.le_refl _) (Nat.le_refl _)
    have vA : (rw4 (au_nx (au_cd 3 (f_5022 (f_5004 s) s).2 s2))).2.1 a = nI v := by
      rw [sgB.V (by omega)]
      exact g5
    unfold PF
    rw [if_neg (by decide), if_neg (by decide), if_neg (by decide), if_neg (by decide), if_neg (by decide), if_pos rfl]
    refine Or.inl ⟨?_, ?_, by rw [(sgA.tr sgB).C (by omega)]; exact h0, ⟨v, hv8, vA⟩, a2, cq, p1, q6, rfl, q7, ?_, rfl⟩
    · rw [sgB.K (by omega)]
      exact g4
    · rw [sgB.K (by omega)]
      show (rw4 (f_5022 (f_5004 s) s).1).1 (a + 1) = 27
      rw [← g1.ka]
      exact x27
    · rw [vA, q8]
      exact g6
theorem pt10 {n j : Nat} (hP : PI a e L (c + 1) k s) (h0 : (rw4 s).2.2.1 c = 0) (h26 : au_ko s = 26) (h : f_5010 (f_rd n) s = some s') (hC : Cap s') : PS j L a e c k s s' := by
  obtain ⟨hL, hl, hN, hv⟩ := hP
  have he := hL.2.2.2.2.1
  have hae := hL.lt (by rw [h26]; decide)
  rw [cell_eq] at h
  have h : bOv (f_rd n 5019 0 (f_5007 (au_sk 37 s))) (fun s3 => bOv (f_rd n 5018 (nI 1) (f_5006 27 (au_dn s3))) fun s6 => some (f_5006 33 (au_cd 4 0 s6))) = some s' := h
  obtain ⟨s2, e2⟩ := bOv_ex h
  have h := bOv_go h e2
  obtain ⟨s3, e3⟩ := bOv_ex h
  have h := bOv_go h e3
  cases h
  have c3 : Cap s3 := hC.b1 (fun p h => stm_J h)
  have cx : Cap (f_5006 27 (au_dn s2)) := c3.bk e3 (rd_J n _ _ _)
  have c2 : Cap s2 := cx.b1 (fun p h => JM.ex (JM.v h (by decide)))
  have c1 : Cap (f_5007 (au_sk 37 s)) := c2.bk e2 (rd_J n _ _ _)
  have c0 : Cap s := c1.b1 (fun p h => JM.op (JM.B h (by decide)))
  have hc : c + 1 < 600 := by have := c0.2.1; rw [hl.1] at this; exact this
  obtain ⟨h8, e8⟩ := op_ok c1.1
  have h8' : L < 8 := hL.l8.1 h8
  rw [e8] at e2
  obtain ⟨sg, g1⟩ := Sg.sk (s' := au_up (au_sk 37 s)) (x := 37) (a1 := a + 1) hl hL hae (by decide) (by omega) rfl (by omega) (by omega)
  obtain ⟨a2, cq, kq, N1, w1, w2, w3, w4, w5, w6⟩ := (dAll n).2.1 (a + 1) e (L + 1) (c + 1) k _ s2 ⟨(hL.sk (x := 37) hae (by decide)).up hae h8', sg.ln, hN, sg.l1.trans hv⟩ e2 c2
  have b2 := w5.1
  obtain ⟨x27, ex⟩ := ex_ok cx.1
  rw [ex] at e3
  have x27 : au_ko s2 = 27 := x27
  have hae2 := w1.lt (by rw [x27]; decide)
  have he2 := w1.2.2.2.2.1
  have sg3 : Sg s2 (au_nx (au_dn s2)) a2 (a2 + 1) cq cq kq kq := Sg.i rfl w5.ln (by omega) (by omega) (by omega)
  obtain ⟨a3, cr, kr, N2, v1, v2, v3, v4, v5, v6⟩ := (dAll n).1 1 (by omega) (by omega) (a2 + 1) e L cq kq _ s3 ⟨w1.dn.nx hae2, sg3.ln, w3, (sg3.l1.trans w5.l1).trans (sg.l1.trans hv)⟩ e3 c3
  have b3 := v5.1
  obtain ⟨q1, q2, q3, q4, q5, q6, q7, q8⟩ := stm_end v1 v5.ln hC
  have sgB := v5.tr q5
  have sgC := sg3.tr sgB
  have sgD := w5.tr sgC
  rw [q2]
  refine ⟨a3 + 1, cr + 1, kr, (N1 + N2) + 1, q4, by omega, v3, v4.trans w4, sg.tr sgD, PX1 ?_⟩
  have p1 := PX.sg (k0 := k) (k3 := kr) w6 sgC.F (Nat.le_refl _) (Nat.le_refl _) (Nat.le_refl _) (Nat.le_refl _) (by omega)
  have p2 := PX.sg (k0 := k) (k3 := kr) v6 q5.F (Nat.le_refl _) (Nat.le_refl _) (Nat.le_refl _) (by omega) (Nat.le_refl _)
  unfold PF
  rw [if_neg (by decide), if_neg (by decide), if_neg (by decide), if_neg (by decide), if_neg (by decide), if_pos rfl]
  refine Or.inr (Or.inl ⟨?_, h8', by rw [(sg.tr sgD).C (by omega)]; exact h0, a2, cq, a3, cr, p1.up (by omega), ?_, p2.up (by omega), q6, rfl, q7, rfl⟩)
  · rw [sgD.K (by omega)]
    exact g1
  · rw [sgB.K (by omega)]
    show (rw4 s2).1 a2 = 27
    rw [← w1.ka]
    exact x27
theorem pt08 {n j : Nat} (hP : PI a e L (c + 1) k s) (h0 : (rw4 s).2.2.1 c = 0) (h8 : au_ko s = 8) (h : bOv (f_rd n 5018 (nI 1) (au_nx s)) (fun s8 => some (f_5006 33 (au_cd 6 0 s8))) = some s') (hC : Cap s') : PS j L a e c k s s' := by
  obtain ⟨hL, hl, hN, hv⟩ := hP
  have he := hL.2.2.2.2.1
  have hae := hL.lt (by rw [h8]; decide)
  obtain ⟨s2, e2⟩ := bOv_ex h
  have h := bOv_go h e2
  cases h
  have c2 : Cap s2 := hC.b1 (fun p h => stm_J h)
  have c0 : Cap s := c2.bk e2 (fun p h => JM.rd n _ _ _ (JM.v h (by decide)))
  have hc : c + 1 < 600 := by have := c0.2.1; rw [hl.1] at this; exact this
  have sg1 : Sg s (au_nx s) a (a + 1) (c + 1) (c + 1) k k := Sg.i rfl hl (by omega) (by omega) (by omega)
  obtain ⟨a2, cq, kq, N, w1, w2, w3, w4, w5, w6⟩ := (dAll n).1 1 (by omega) (by omega) (a + 1) e L (c + 1) k _ s2 ⟨hL.nx hae, hl, hN, hv⟩ e2 c2
  obtain ⟨q1, q2, q3, q4, q5, q6, q7, q8⟩ := stm_end w1 w5.ln hC
  have sgB := w5.tr q5
  rw [q2]
  refine ⟨a2 + 1, cq + 1, kq, N + 1, q4, by omega, w3, w4, sg1.tr sgB, PX1 ?_⟩
  have p1 := PX.sg (k0 := k) (k3 := kq) w6 q5.F (Nat.le_refl _) (Nat.le_refl _) (Nat.le_refl _) (Nat.le_refl _) (Nat.le_refl _)
  unfold PF
  rw [if_neg (by decide), if_neg (by decide), if_neg (by decide), if_neg (by decide), if_neg (by decide), if_pos rfl]
  refine Or.inr (Or.inr (Or.inl ⟨?_, by rw [(sg1.tr sgB).C (by omega)]; exact h0, a2, cq, p1, q6, rfl, q7, rfl⟩))
  rw [sgB.K (by omega), ← h8, hL.ka]
  rfl
theorem pt13 {n : Nat} (hP : PI a e L (c + 1) k s) (h0 : (rw4 s).2.2.1 c = 0) (h11 : au_ko s = 11) (h : f_5013 (f_rd n) s = some s') (hC : Cap s') : s.2 5 ≠ 0 ∧ PS 1 L a e c k s s' := by
  obtain ⟨hL, hl, hN, hv⟩ := hP
  have he := hL.2.2.2.2.1
  have hae := hL.lt (by rw [h11]; decide)
  unfold f_5013 at h
  by_cases h5 : s.2 5 = 0
  · rw [if_pos h5] at h
    have h : some (f_5005 3 (s.2 2) s) = some s' := h
    cases h
    exact absurd hC.1 (ref_n (by decide))
  rw [if_neg h5] at h
  have h : bOv (f_rd n 5018 (nI 1) (au_nx s)) (fun s8 => some (f_5006 33 (au_cd 16 0 s8))) = some s' := h
  obtain ⟨s2, e2⟩ := bOv_ex h
  have h := bOv_go h e2
  cases h
  have c2 : Cap s2 := hC.b1 (fun p h => stm_J h)
  have c0 : Cap s := c2.bk e2 (fun p h => JM.rd n _ _ _ (JM.v h (by decide)))
  have hc : c + 1 < 600 := by have := c0.2.1; rw [hl.1] at this; exact this
  have sg1 : Sg s (au_nx s) a (a + 1) (c + 1) (c + 1) k k := Sg.i rfl hl (by omega) (by omega) (by omega)
  obtain ⟨a2, cq, kq, N, w1, w2, w3, w4, w5, w6⟩ := (dAll n).1 1 (by omega) (by omega) (a + 1) e L (c + 1) k _ s2 ⟨hL.nx hae, hl, hN, hv⟩ e2 c2
  obtain ⟨q1, q2, q3, q4, q5, q6, q7, q8⟩ := stm_end w1 w5.ln hC
  have sgB := w5.tr q5
  rw [q2]
  refine ⟨h5, a2 + 1, cq + 1, kq, N + 1, q4, by omega, w3, w4, sg1.tr sgB, PX1 ?_⟩
  have p1 := PX.sg (k0 := k) (k3 := kq) w6 q5.F (Nat.le_refl _) (Nat.le_refl _) (Nat.le_refl _) (Nat.le_refl _) (Nat.le_refl _)
  unfold PF
  rw [if_neg (by decide), if_neg (by decide), if_neg (by decide), if_neg (by decide), if_neg (by decide), if_pos rfl]
  refine Or.inr (Or.inr (Or.inr (Or.inl ⟨?_, rfl, by rw [(sg1.tr sgB).C (by omega)]; exact h0, a2, cq, p1, q6, rfl, q7, rfl⟩)))
  rw [sgB.K (by omega), ← h11, hL.ka]
  rfl
end PXT
