/-! the pass over expressions -/
section PXE
def Cap (s : Sx) : Prop := s.2 0 = 0 ∧ (s.1 7).length < 600 ∧ (s.1 15).length < 150
def PI (a e L c k : Nat) (s : Sx) : Prop := Lv a e L s ∧ Ln s c k ∧ Nl s ∧ (s.1 1).length = e + 1
def PO (w g j o L a e c k : Nat) (s s' : Sx) : Prop := ∃ a' c' k' N, Lv a' e L s' ∧ a + w ≤ a' ∧ Nl s' ∧ s'.2 5 = s.2 5 ∧ Sg s s' a a' c c' k k' ∧ PX (rw4 s') (Qs s' k k') N g j o L a a' c c'
def D18 (n : Nat) : Prop := ∀ (j : Nat), 1 ≤ j → j ≤ 7 → ∀ (a e L c k : Nat) (s s' : Sx), PI a e L c k s → f_rd n 5018 (nI j) s = some s' → Cap s' → PO 1 0 j 0 L a e c k s s'
def D19 (n : Nat) : Prop := ∀ (a e L c k : Nat) (s s' : Sx), PI a e L c k s → f_rd n 5019 0 s = some s' → Cap s' → PO 1 2 0 0 L a e c k s s'
def D20 (n : Nat) : Prop := ∀ (a e L c k : Nat) (s s' : Sx), PI a e L c k s → (au_ko s = 25 ∨ au_ko s = 26 ∨ au_ko s = 36) → f_rd n 5020 0 s = some s' → Cap s' → PO 1 2 0 0 L a e c k s s'
def D21 (n : Nat) : Prop := ∀ (a e L c k : Nat) (s s' : Sx), PI a e L c k s → au_ko s = 4 → xg (s.1 0) (s.2 2 + 1) = 28 → f_rd n 5021 0 s = some s' → Cap s' → PO 1 3 0 0 L a e c k s s'
variable {s s1 s' : Sx} {a a1 a' c c1 c' k k1 k' e L : Nat}
theorem Cap.bk {x : Option Sx} (hc : Cap s') (h : x = some s') (hj : ∀ p, JM p s1 → HS (JM p) x) : Cap s1 := by
  have h0 := hj ((s1.1 7).length, (s1.1 15).length, 0, s1.2 0 ≠ 0) ⟨Nat.le_refl _, Nat.le_refl _, Nat.zero_le _, fun q => q⟩ s' h
  refine ⟨?_, Nat.lt_of_le_of_lt h0.1 hc.2.1, Nat.lt_of_le_of_lt h0.2.1 hc.2.2⟩
  by_cases q : s1.2 0 = 0
  · exact q
  · exact absurd hc.1 (h0.2.2.2 q)
theorem Cap.b1 (hc : Cap s') (hj : ∀ p, JM p s1 → JM p s') : Cap s1 := Cap.bk (x := some s') hc rfl (fun p h => HS.some (hj p h))
theorem Cap.cd {x y : Int32} (hc : Cap (au_cd x y s)) (hl : Ln s c k) : c < 600 := by
  have := xadd_ge (ev_cap 7) (s.1 7) x
  have h2 : (xadd (ev_cap 7) (s.1 7) x).length < 600 := hc.2.1
  have := hl.1
  omega
theorem cn_cd {x y : Int32} (hl : Ln s c k) (h : c < 600) : au_cn (au_cd x y s) = nI c := by
  have e7 : (au_cd x y s).1 7 = s.1 7 ++ [x] := xadd_e (by rw [hl.1]; exact h)
  unfold au_cn
  rw [e7, List.length_append, hl.1]
  exact nI_pred c
theorem rd_J (n : Nat) (y : Nat) (x : Int32) (s1 : Sx) : ∀ p, JM p s1 → HS (JM p) (f_rd n y x s1) := fun p h => JM.rd n y x s1 h
theorem ref_n {f t : Int32} (hf : f ≠ 0) : (f_5005 f t s).2 0 ≠ 0 := by
  unfold f_5005
  split
  · exact hf
  · rename_i h; exact h
theorem ex_ok {x : Int32} (h : (f_5006 x s).2 0 = 0) : au_ko s = x ∧ f_5006 x s = au_nx s := by
  by_cases q : au_ko s = x
  · exact ⟨q, ex_y q⟩
  · rw [ex_n q] at h
    exact absurd h (ref_n (by decide))
theorem op_ok (h : (f_5007 s).2 0 = 0) : s.2 4 < 8 ∧ f_5007 s = au_up s := by
  by_cases q : s.2 4 < 8
  · exact ⟨q, op_y q⟩
  · rw [op_n q] at h
    exact absurd h (ref_n (by decide))
theorem Lv.ka (h : Lv a e L s) : au_ko s = (rw4 s).1 a := by
  unfold au_ko
  rw [h.2.1, xg_n (by have := h.2.2.2.1; have := h.2.2.2.2.1; omega)]
  rfl
theorem PX1 {R : Rw} {Q : Nat → Nat → Nat → Prop} {n g j o L i i' c c' : Nat} (h : PF R Q (PX R Q n) g j o L i i' c c') : PX R Q (n + 1) g j o L i i' c c' := h
theorem PO.nil (hL : Lv a e L s) (hN : Nl s) (hl : Ln s c k) (hc : c ≤ 600) {j o : Nat} : PO 0 1 j o L a e c k s s := by
  have := hL.2.2.2.1
  have := hL.2.2.2.2.1
  exact ⟨a, c, k, 1, hL, Nat.le_refl _, hN, rfl, Sg.i rfl hl (Nat.le_refl _) (by omega) hc, PX1 (by unfold PF; rw [if_neg (by decide), if_pos rfl]; exact Or.inl ⟨rfl, rfl⟩)⟩
/-- operators of a level behind an operand -/
theorem d18_loop {n : Nat} (ih : D18 n) {j : Nat} (h1 : 1 ≤ j) (h6 : j ≤ 6) : ∀ (m : Nat) (l2 : Int32) (a c k : Nat) (s s' : Sx), PI a e L c k s → f_5018_L20 (f_rd n) m (nI j) l2 s = some s' → Cap s' → PO 0 1 j 0 L a e c k s s' := by
  intro m
  induction m with
  | zero => intro l2 a c k s s' _ h; cases h
  | succ m ihm =>
    intro l2 a c k s s' ⟨hL, hl, hN, hv⟩ h hC
    have he := hL.2.2.2.2.1
    have hle := hL.2.2.2.1
    have hc0 : c < 600 := by
      have := hC.bk h (fun p h => JM.L20 (JM.rd n) _ _ _ _ h)
      have := this.2.1
      rw [hl.1] at this
      exact this
    have stop : s = s' → PO 0 1 j 0 L a e c k s s' := fun q => by
      subst q
      exact PO.nil hL hN hl (by omega)
    rw [f_5018_L20] at h
    by_cases h3 : 300 ≤ l2
    · rw [if_pos h3] at h
      exact stop (Option.some.inj h)
    rw [if_neg h3, lvK_eq, show f_5003 s = au_ko s from rfl] at h
    by_cases hq : lvK (au_ko s) = nI j
    case neg =>
      rw [if_neg hq] at h
      exact stop (Option.some.inj h)
    rw [if_pos hq] at h
    have hk0 : au_ko s ≠ 0 := fun q => by
      rw [q, lvK_0] at hq
      exact nI_ne0 (n := j) (by omega) (by omega) hq.symm
    have hae := hL.lt hk0
    have hLx := hL.nx hae
    have sg1 : Sg s (au_nx s) a (a + 1) c c k k := Sg.i rfl hl (by omega) (by omega) (by omega)
    have key : ∀ cc : Int32, (au_ko s = 23 ∧ cc = 11 ∨ au_ko s = 24 ∧ cc = 12) → bOv (f_rd n 5018 (nI j + 1) (au_cd cc 0 (au_nx s))) (fun s2 => f_5018_L20 (f_rd n) m (nI j) (l2 + 1) (au_sv (s.2 2) (s2.2 2) (au_pt (au_cn (au_cd cc 0 (au_nx s))) (au_cd 10 0 s2)))) = some s' → PO 0 1 j 0 L a e c k s s' := by
      intro cc hcc h
      obtain ⟨s2, e2⟩ := bOv_ex h
      have h := bOv_go h e2
      have c6 := hC.bk h (fun p h => JM.L20 (JM.rd n) _ _ _ _ h)
      have c3 : Cap (au_cd 10 0 s2) := c6.b1 (fun p h => JM.B (JM.pt h) (by decide))
      have c2 : Cap s2 := c3.b1 (fun p h => JM.cd h)
      have c1 : Cap (au_cd cc 0 (au_nx s)) := c2.bk e2 (rd_J n _ _ _)
      obtain ⟨sg2, k2, d2⟩ := Sg.cd (s := au_nx s) (x := cc) (y := 0) (a := a + 1) hl (c1.cd hl) (by omega)
      rw [nI_1] at e2
      obtain ⟨a2, cq, kq, N1, g1, g2, g3, g4, g5, g6⟩ := ih (j + 1) (by omega) (by omega) (a + 1) e L (c + 1) k _ s2 ⟨hLx.co Co_cd, sg2.ln, hN, hv⟩ e2 c2
      have b2 := g5.1
      obtain ⟨sg4, k4, d4⟩ := Sg.cd (s := s2) (x := 10) (y := 0) (a := a2) g5.ln (c3.cd g5.ln) (by omega)
      have sgB := (sg2.tr g5).tr sg4
      have sgA := sg1.tr sgB
      obtain ⟨sg5, d5, z5⟩ := sgA.pt (x := au_cn (au_cd cc 0 (au_nx s))) (p := c) (cn_cd (s := au_nx s) hl hc0) (Nat.le_refl _) (by omega)
      have hlen : ((au_pt (au_cn (au_cd cc 0 (au_nx s))) (au_cd 10 0 s2)).1 1).length = e + 1 := sg5.l1.trans hv
      obtain ⟨sg6, d6, z6⟩ := sg5.sv (x := s.2 2) (v := s2.2 2) (t := a) hL.2.1 (Nat.le_refl _) (by rw [hlen]; omega) (by omega)
      have hL6 : Lv a2 e L (au_sv (s.2 2) (s2.2 2) (au_pt (au_cn (au_cd cc 0 (au_nx s))) (au_cd 10 0 s2))) := g1.co (Co_cd.tr (Co_pt.tr Co_sv))
      obtain ⟨a3, c3', k3', N2, w1, w2, w3, w4, w5, w6⟩ := ihm (l2 + 1) a2 (cq + 1) kq _ s' ⟨hL6, sg6.ln, g3, sg6.l1.trans hv⟩ h hC
      have b3 := w5.1
      have kA : (rw4 s').1 a = au_ko s := by
        rw [w5.K (by omega), hL.ka]
        show (rw4 (au_cd 10 0 s2)).1 a = _
        rw [sgB.K (by omega)]
        rfl
      have cA : (rw4 s').2.2.1 c = cc := by
        rw [w5.C (by omega)]
        show (rw4 (au_cd 10 0 s2)).2.2.1 c = _
        rw [sg4.C (by omega), g5.C (by omega)]
        exact k2
      have cB : (rw4 s').2.2.1 cq = 10 := by
        rw [w5.C (by omega)]
        exact k4
      have dA : (rw4 s').2.2.2 c = nI (cq + 1) := by
        rw [w5.D (by omega)]
        exact d5
      have vA : (rw4 s').2.1 a = nI a2 := by
        rw [w5.V (by omega), d6]
        exact g1.2.1
      have p1 := PX.sg (k0 := k) (k3 := k3') (((g6.sg sg4.F (Nat.le_refl _) (Nat.le_refl _) (Nat.le_refl _) (Nat.le_refl _) (Nat.le_refl _)).pt (k0 := k) (k2 := kq) z5 (Or.inl (by omega))).sv z6 (Or.inl (by omega))) w5.F (Nat.le_refl _) (Nat.le_succ _) (Nat.le_refl _) (Nat.le_refl _) (by omega)
      have w6' := PX.ag (R' := rw4 s') (Q' := Qs s' k k3') (fun i c n q => q.w (by omega) (Nat.le_refl _)) N2 w6 ⟨fun _ _ _ => ⟨rfl, fun _ => rfl⟩, fun q => q, fun _ _ _ => ⟨rfl, fun _ => rfl⟩⟩
      refine ⟨a3, c3', k3', (N1 + N2) + 1, w1, by omega, w3, w4.trans g4, sg6.tr w5, PX1 ?_⟩
      unfold PF
      rw [if_neg (by decide), if_pos rfl]
      refine Or.inr (Or.inl ⟨by rw [kA]; exact hq, by rw [kA, cA]; exact hcc, a2, cq, p1.up (by omega), cB, dA, vA, w6'.up (by omega)⟩)
    rw [bS_eq] at h
    by_cases h23 : au_ko s = 23
    · rw [if_pos h23] at h
      refine key 11 (Or.inl ⟨h23, rfl⟩) ?_
      unfold f_5018_J73 f_5018_J91 at h
      rw [if_pos h23] at h
      exact h
    rw [if_neg h23] at h
    by_cases h24 : au_ko s = 24
    · rw [if_pos h24] at h
      refine key 12 (Or.inr ⟨h24, rfl⟩) ?_
      unfold f_5018_J73 f_5018_J91 at h
      rw [if_neg h23] at h
      exact h
    rw [if_neg h24] at h
    have h : bOv (f_rd n 5018 (nI j + 1) (au_nx s)) (fun s2 => f_5018_L20 (f_rd n) m (nI j) (l2 + 1) (au_cd 9 (au_ko s) s2)) = some s' := h
    obtain ⟨s2, e2⟩ := bOv_ex h
    have h := bOv_go h e2
    have c3 : Cap (au_cd 9 (au_ko s) s2) := hC.bk h (fun p h => JM.L20 (JM.rd n) _ _ _ _ h)
    have c2 : Cap s2 := c3.b1 (fun p h => JM.cd h)
    rw [nI_1] at e2
    obtain ⟨a2, cq, kq, N1, g1, g2, g3, g4, g5, g6⟩ := ih (j + 1) (by omega) (by omega) (a + 1) e L c k _ s2 ⟨hLx, hl, hN, hv⟩ e2 c2
    have b2 := g5.1
    obtain ⟨sg4, k4, d4⟩ := Sg.cd (s := s2) (x := 9) (y := au_ko s) (a := a2) g5.ln (c3.cd g5.ln) (by omega)
    have sgB := g5.tr sg4
    have sgA := sg1.tr sgB
    obtain ⟨a3, c3', k3', N2, w1, w2, w3, w4, w5, w6⟩ := ihm (l2 + 1) a2 (cq + 1) kq _ s' ⟨g1.co Co_cd, sgA.ln, g3, sgA.l1.trans hv⟩ h hC
    have b3 := w5.1
    have kA : (rw4 s').1 a = au_ko s := by
      rw [w5.K (by omega), sgB.K (by omega), hL.ka]
      rfl
    have cB : (rw4 s').2.2.1 cq = 9 := by
      rw [w5.C (by omega)]
      exact k4
    have dB : (rw4 s').2.2.2 cq = (rw4 s').1 a := by
      rw [w5.D (by omega), kA]
      exact d4
    have p1 := PX.sg (k0 := k) (k3 := k3') (g6.sg (k0 := k) (k3 := kq) sg4.F (Nat.le_refl _) (Nat.le_refl _) (Nat.le_refl _) (Nat.le_refl _) (Nat.le_refl _)) w5.F (Nat.le_refl _) (Nat.le_succ _) (Nat.le_refl _) (Nat.le_refl _) (by omega)
    have w6' := PX.ag (R' := rw4 s') (Q' := Qs s' k k3') (fun i c n q => q.w (by omega) (Nat.le_refl _)) N2 w6 ⟨fun _ _ _ => ⟨rfl, fun _ => rfl⟩, fun q => q, fun _ _ _ => ⟨rfl, fun _ => rfl⟩⟩
    refine ⟨a3, c3', k3', (N1 + N2) + 1, w1, by omega, w3, w4.trans g4, sgA.tr w5, PX1 ?_⟩
    unfold PF
    rw [if_neg (by decide), if_pos rfl]
    exact Or.inr (Or.inr ⟨by rw [kA]; exact hq, by rw [kA]; exact h23, by rw [kA]; exact h24, a2, cq, p1.up (by omega), cB, dB, w6'.up (by omega)⟩)
theorem d18 {n : Nat} (h18 : D18 n) (h19 : D19 n) : D18 (n + 1) := by
  intro j h1 h7 a e L c k s s' ⟨hL, hl, hN, hv⟩ h hC
  rw [rd_18] at h
  unfold f_5018 at h
  by_cases q : j = 7
  · subst q
    rw [if_neg nlt7] at h
    obtain ⟨s1, e1⟩ := bOv_ex h
    have h := bOv_go h e1
    cases h
    obtain ⟨a', c', k', N, g1, g2, g3, g4, g5, g6⟩ := h19 a e L c k s s' ⟨hL, hl, hN, hv⟩ e1 hC
    refine ⟨a', c', k', N + 1, g1, g2, g3, g4, g5, PX1 ?_⟩
    unfold PF
    rw [if_pos rfl]
    exact Or.inr ⟨rfl, g6⟩
  · rw [if_pos (lt7 (by omega)), nI_1] at h
    obtain ⟨s1, e1⟩ := bOv_ex h
    have h := bOv_go h e1
    have c1 : Cap s1 := hC.bk h (fun p h => JM.L20 (JM.rd n) _ _ _ _ h)
    obtain ⟨a1, c1', k1, N1, g1, g2, g3, g4, g5, g6⟩ := h18 (j + 1) (by omega) (by omega) a e L c k s s1 ⟨hL, hl, hN, hv⟩ e1 c1
    obtain ⟨a', c', k', N2, w1, w2, w3, w4, w5, w6⟩ := d18_loop h18 (by omega) (by omega) 400 0 a1 c1' k1 s1 s' ⟨g1, g5.ln, g3, g5.l1.trans hv⟩ h hC
    have b1 := g5.1
    have b2 := w5.1
    have p1 := PX.sg (k0 := k) (k3 := k') g6 w5.F (Nat.le_refl _) (Nat.le_refl _) (Nat.le_refl _) (Nat.le_refl _) (by omega)
    have w6' := PX.ag (R' := rw4 s') (Q' := Qs s' k k') (fun i c n q => q.w (by omega) (Nat.le_refl _)) N2 w6 ⟨fun _ _ _ => ⟨rfl, fun _ => rfl⟩, fun q => q, fun _ _ _ => ⟨rfl, fun _ => rfl⟩⟩
    refine ⟨a', c', k', (N1 + N2) + 1, w1, by omega, w3, w4.trans g4, g5.tr w5, PX1 ?_⟩
    unfold PF
    rw [if_pos rfl]
    exact Or.inl ⟨by omega, a1, c1', p1.up (by omega), w6'.up (by omega)⟩
end PXE
