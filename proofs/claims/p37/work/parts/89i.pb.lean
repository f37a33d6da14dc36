/-! the pass over blocks and what holds blocks -/
section PXB
variable {s s1 s' : Sx} {a a1 a' c c1 c' k k1 k' e L : Nat}
def D17 (n : Nat) : Prop := ∀ (j o a e L c k : Nat) (s s' : Sx), PI a e L c k s → s.2 5 = nI j → j ≤ 1 → f_rd n 5017 (nI o) s = some s' → Cap s' → PO 1 7 j o L a e c k s s'
def D08 (n : Nat) : Prop := ∀ (j a e L c k : Nat) (s s' : Sx), PI a e L c k s → s.2 5 = nI j → j ≤ 1 → (au_ko s ≠ 10 ∨ 0 < L) → f_rd n 5008 0 s = some s' → Cap s' → PO 1 6 j 0 L a e c k s s'
theorem PX.h6 {R : Rw} {Q : Nat → Nat → Nat → Prop} : ∀ (n : Nat) {j o L i i' c c' : Nat}, PX R Q n 6 j o L i i' c c' → R.1 i ≠ 6 := by
  intro n
  cases n with
  | zero => intro j o L i i' c c' h; exact h.elim
  | succ n =>
    intro j o L i i' c c' hP hg
    have hP : PF R Q (PX R Q n) 6 j o L i i' c c' := hP
    unfold PF at hP
    rw [if_neg (by decide), if_neg (by decide), if_neg (by decide), if_neg (by decide), if_neg (by decide), if_pos rfl] at hP
    rcases hP with q | q | q | q | ⟨_, i1, c1, h1, _⟩ | q | q | q
    · have := q.1; rw [hg] at this; revert this; decide
    · have := q.1; rw [hg] at this; revert this; decide
    · have := q.1; rw [hg] at this; revert this; decide
    · have := q.1; rw [hg] at this; revert this; decide
    · have := PX.hd n h1 (Or.inr (Or.inr rfl)); rw [hg] at this; revert this; decide
    · have := q.1; rw [hg] at this; revert this; decide
    · have := q.1; rw [hg] at this; revert this; decide
    · have := q.1; rw [hg] at this; revert this; decide
theorem blk_end {x o : Int32} {z : Sx} (h : au_dn (f_5006 31 (au_sv (z.2 2) o (au_sv x (z.2 2 + 1) z))) = s') (hC : Cap s') : au_ko z = 31 := by
  have h0 := hC.1
  rw [← h] at h0
  exact (ex_ok h0).1
theorem d17_loop {n : Nat} (h08 : D08 n) {j : Nat} (hj : j ≤ 1) {o x : Int32} (hL0 : 0 < L) : ∀ (m : Nat) (l3 : Int32) (a c k : Nat) (s s' : Sx), PI a e L c k s → s.2 5 = nI j → f_5017_L30 (f_rd n) m o x l3 s = some s' → Cap s' →
    ∃ z a' c' k' N, au_dn (f_5006 31 (au_sv (z.2 2) o (au_sv x (z.2 2 + 1) z))) = s' ∧ Lv a' e L z ∧ a ≤ a' ∧ Nl z ∧ z.2 5 = s.2 5 ∧ Sg s z a a' c c' k k' ∧ PX (rw4 z) (Qs z k k') N 8 j 0 L a a' c c' ∧ (rw4 z).1 a ≠ 6 := by
  intro m
  induction m with
  | zero => intro l3 a c k s s' _ _ h; cases h
  | succ m ihm =>
    intro l3 a c k s s' ⟨hL, hl, hN, hv⟩ h5 h hC
    have he := hL.2.2.2.2.1
    have hle := hL.2.2.2.1
    have hc0 : c < 600 := by
      have := hC.bk h (fun p h => JM.L30 (JM.rd n) _ _ _ _ _ h)
      have := this.2.1
      rw [hl.1] at this
      exact this
    have stop : some (au_dn (f_5006 31 (au_sv (s.2 2) o (au_sv x (s.2 2 + 1) s)))) = some s' → ∃ z a' c' k' N, au_dn (f_5006 31 (au_sv (z.2 2) o (au_sv x (z.2 2 + 1) z))) = s' ∧ Lv a' e L z ∧ a ≤ a' ∧ Nl z ∧ z.2 5 = s.2 5 ∧ Sg s z a a' c c' k k' ∧ PX (rw4 z) (Qs z k k') N 8 j 0 L a a' c c' ∧ (rw4 z).1 a ≠ 6 := fun q => by
      have q := Option.some.inj q
      refine ⟨s, a, c, k, 1, q, hL, Nat.le_refl _, hN, rfl, Sg.i rfl hl (Nat.le_refl _) (by omega) (by omega), PX1 (by unfold PF; rw [if_neg (by decide), if_neg (by decide), if_neg (by decide), if_neg (by decide), if_neg (by decide), if_neg (by decide), if_neg (by decide)]; exact Or.inl ⟨rfl, rfl⟩), ?_⟩
      rw [← hL.ka, blk_end q hC]
      decide
    rw [f_5017_L30, j63] at h
    by_cases h3 : 300 ≤ l3
    · rw [if_pos h3] at h
      exact stop h
    rw [if_neg h3, show f_5003 s = au_ko s from rfl] at h
    by_cases h31 : au_ko s = 31
    · rw [if_pos h31] at h
      exact stop h
    rw [if_neg h31] at h
    by_cases h00 : au_ko s = 0
    · rw [if_pos h00] at h
      exact stop h
    rw [if_neg h00] at h
    obtain ⟨s2, e2⟩ := bOv_ex h
    have h := bOv_go h e2
    have c2 : Cap s2 := hC.bk h (fun p h => JM.L30 (JM.rd n) _ _ _ _ _ h)
    obtain ⟨a2, cq, kq, N1, g1, g2, g3, g4, g5, g6⟩ := h08 j a e L c k s s2 ⟨hL, hl, hN, hv⟩ h5 hj (Or.inr hL0) e2 c2
    have b2 := g5.1
    obtain ⟨z, a3, c3, k3, N2, w0, w1, w2, w3, w4, w5, w6, w7⟩ := ihm _ a2 cq kq s2 s' ⟨g1, g5.ln, g3, g5.l1.trans hv⟩ (g4.trans h5) h hC
    have b3 := w5.1
    have p1 := PX.sg (k0 := k) (k3 := k3) g6 w5.F (Nat.le_refl _) (Nat.le_refl _) (Nat.le_refl _) (Nat.le_refl _) (by omega)
    have w6' := PX.ag (R' := rw4 z) (Q' := Qs z k k3) (fun i c n q => q.w (by omega) (Nat.le_refl _)) N2 w6 ⟨fun _ _ _ => ⟨rfl, fun _ => rfl⟩, fun q => q, fun _ _ _ => ⟨rfl, fun _ => rfl⟩⟩
    refine ⟨z, a3, c3, k3, (N1 + N2) + 1, w0, w1, by omega, w3, w4.trans g4, g5.tr w5, PX1 ?_, PX.h6 N1 p1⟩
    unfold PF
    rw [if_neg (by decide), if_neg (by decide), if_neg (by decide), if_neg (by decide), if_neg (by decide), if_neg (by decide), if_neg (by decide)]
    exact Or.inr ⟨a2, cq, p1.up (by omega), w6'.up (by omega)⟩
theorem d17 {n : Nat} (h08 : D08 n) : D17 (n + 1) := by
  intro j o a e L c k s s' ⟨hL, hl, hN, hv⟩ h5 hj h hC
  have he := hL.2.2.2.2.1
  rw [rd_17] at h
  unfold f_5017 at h
  rw [show f_5003 s = au_ko s from rfl] at h
  by_cases h30 : au_ko s = 30
  case neg =>
    rw [if_neg h30] at h
    have h : some (f_5005 3 (s.2 2) s) = some s' := h
    cases h
    exact absurd hC.1 (ref_n (by decide))
  rw [if_pos h30] at h
  have h : f_5017_L30 (f_rd n) 400 (nI o) (s.2 2) 0 (f_5007 s) = some s' := h
  have c1 : Cap (f_5007 s) := hC.bk h (fun p h => JM.L30 (JM.rd n) _ _ _ _ _ h)
  have c0 : Cap s := c1.b1 (fun p h => JM.op h)
  have hc : c < 600 := by have := c0.2.1; rw [hl.1] at this; exact this
  obtain ⟨h8, e8⟩ := op_ok c1.1
  have h8' := hL.l8.1 h8
  rw [e8] at h
  have hae := hL.lt (by rw [h30]; decide)
  have sg1 : Sg s (au_up s) a (a + 1) c c k k := Sg.i rfl hl (by omega) (by omega) (by omega)
  obtain ⟨z, a2, c2, k2, N, w0, w1, w2, w3, w4, w5, w6, w7⟩ := d17_loop h08 hj (Nat.succ_pos L) 400 0 (a + 1) c k (au_up s) s' ⟨hL.up hae h8', hl, hN, hv⟩ h5 h hC
  have k31 := blk_end w0 hC
  have b5 := w5.1
  have hz2 := w1.2.1
  have hae2 := w1.lt (by rw [k31]; decide)
  have he2 := w1.2.2.2.2.1
  have sgA := sg1.tr w5
  have hlz : (z.1 1).length = e + 1 := sgA.l1.trans hv
  obtain ⟨sgB, d1, y1⟩ := sgA.sv (x := s.2 2) (v := z.2 2 + 1) (t := a) hL.2.1 (Nat.le_refl _) (by omega) (by omega)
  have hlz2 : ((au_sv (s.2 2) (z.2 2 + 1) z).1 1).length = e + 1 := sgB.l1.trans hv
  obtain ⟨sgC, d2, y2⟩ := sgB.sv (x := z.2 2) (v := nI o) (t := a2) hz2 (by omega) (by omega) (by omega)
  have hx : f_5006 31 (au_sv (z.2 2) (nI o) (au_sv (s.2 2) (z.2 2 + 1) z)) = au_nx (au_sv (z.2 2) (nI o) (au_sv (s.2 2) (z.2 2 + 1) z)) := ex_y k31
  rw [hx] at w0
  subst w0
  have sgD : Sg (au_sv (z.2 2) (nI o) (au_sv (s.2 2) (z.2 2 + 1) z)) (au_dn (au_nx (au_sv (z.2 2) (nI o) (au_sv (s.2 2) (z.2 2 + 1) z)))) a2 (a2 + 1) c2 c2 k2 k2 := Sg.i rfl sgC.ln (by omega) (by omega) (by omega)
  have hLz : Lv a2 e (L + 1) (au_sv (z.2 2) (nI o) (au_sv (s.2 2) (z.2 2 + 1) z)) := w1.co (Co_sv.tr Co_sv)
  refine ⟨a2 + 1, c2, k2, N + 1, (hLz.nx hae2).dn, by omega, w3, w4, sgC.tr sgD, PX1 ?_⟩
  have p1 := (w6.sv y1 (Or.inl (by omega))).sv y2 (Or.inr (Nat.le_refl _))
  unfold PF
  rw [if_neg (by decide), if_neg (by decide), if_neg (by decide), if_neg (by decide), if_neg (by decide), if_neg (by decide), if_pos rfl]
  refine ⟨?_, h8', ?_, a2, p1, ?_, d2, rfl⟩
  · show (rw4 z).1 a = 30
    rw [w5.K (by omega), ← h30, hL.ka]
    rfl
  · have : (rw4 (au_sv (z.2 2) (nI o) (au_sv (s.2 2) (z.2 2 + 1) z))).2.1 a = nI (a2 + 1) := by
      rw [y2 a (by omega), d1, hz2, nI_1]
    exact this
  · show (rw4 z).1 a2 = 31
    rw [← w1.ka]
    exact k31
/-- what an if or a while begins with: an expression, a code that waits, a block -/
theorem pt_eb {n j o : Nat} (h17 : D17 n) {s0 s2 s4 : Sx} {m : Nat} (hj : j ≤ 1) (hP : PI a e L c k s0) (h5 : s0.2 5 = nI j) (e2 : f_rd m 5018 (nI 1) s0 = some s2) (e4 : f_rd n 5017 (nI o) (au_cd 14 0 s2) = some s4) (hC : Cap s4) :
    ∃ a1 c1 a2 c2 k2 N, Lv a2 e L s4 ∧ a < a1 ∧ a1 < a2 ∧ c ≤ c1 ∧ c1 < c2 ∧ Nl s4 ∧ s4.2 5 = s0.2 5 ∧ Sg s0 s4 a a2 c c2 k k2 ∧ PX (rw4 s4) (Qs s4 k k2) N 0 1 0 L a a1 c c1 ∧ (rw4 s4).2.2.1 c1 = 14 ∧ PX (rw4 s4) (Qs s4 k k2) N 7 j o L a1 a2 (c1 + 1) c2 ∧ au_cn (au_cd 14 0 s2) = nI c1 ∧ c2 < 600 := by
  have c3 : Cap (au_cd 14 0 s2) := hC.bk e4 (rd_J n _ _ _)
  have c2 : Cap s2 := c3.b1 (fun p h => JM.cd h)
  obtain ⟨a1, c1, k1, N1, g1, g2, g3, g4, g5, g6⟩ := (dAll m).1 1 (by omega) (by omega) a e L c k s0 s2 hP e2 c2
  have b2 := g5.1
  have he2 := g1.2.2.2.2.1
  obtain ⟨sg4, q1, q2⟩ := Sg.cd (s := s2) (x := 14) (y := 0) (a := a1) g5.ln (c3.cd g5.ln) (by omega)
  have hcn := cn_cd (x := 14) (y := 0) g5.ln (c3.cd g5.ln)
  have h54 : (au_cd 14 0 s2).2 5 = nI j := g4.trans h5
  obtain ⟨a2, c2', k2, N2, w1, w2, w3, w4, w5, w6⟩ := h17 j o a1 e L (c1 + 1) k1 _ s4 ⟨g1.co Co_cd, sg4.ln, g3, (g5.tr sg4).l1.trans hP.2.2.2⟩ h54 hj e4 hC
  have b5 := w5.1
  have sgB := sg4.tr w5
  have p1 := PX.sg (k0 := k) (k3 := k2) g6 sgB.F (Nat.le_refl _) (Nat.le_refl _) (Nat.le_refl _) (Nat.le_refl _) (by omega)
  have p2 := PX.ag (R' := rw4 s4) (Q' := Qs s4 k k2) (fun i c n q => q.w (by omega) (Nat.le_refl _)) N2 w6 ⟨fun _ _ _ => ⟨rfl, fun _ => rfl⟩, fun q => q, fun _ _ _ => ⟨rfl, fun _ => rfl⟩⟩
  have h600 : c2' < 600 := by have := hC.2.1; rw [w5.ln.1] at this; exact this
  refine ⟨a1, c1, a2, c2', k2, N1 + N2, w1, by omega, by omega, by omega, by omega, w3, w4.trans g4, g5.tr sgB, p1.up (by omega), ?_, p2.up (by omega), hcn, h600⟩
  rw [w5.C (by omega)]
  exact q1
theorem pt11 {n j : Nat} (h17 : D17 n) (hj : j ≤ 1) (hP : PI a e L (c + 1) k s) (h5 : s.2 5 = nI j) (h0 : (rw4 s).2.2.1 c = 0) (hk5 : au_ko s = 5) (h : f_5011 (f_rd n) s = some s') (hC : Cap s') : PS j L a e c k s s' := by
  obtain ⟨hL, hl, hN, hv⟩ := hP
  have he := hL.2.2.2.2.1
  have hae := hL.lt (by rw [hk5]; decide)
  unfold f_5011 at h
  have h : bOv (f_rd n 5018 (nI 1) (au_nx s)) (fun s2 => bOv (f_rd n 5017 (s.2 2) (au_cd 14 0 s2)) fun s4 => if au_ko s4 = 6 then bOv (f_rd n 5017 (s4.2 2) (au_pt (au_cn (au_cd 14 0 s2)) (au_cd 13 0 (au_nx s4)))) (fun s13 => some (au_pt (au_cn (au_cd 13 0 (au_nx s4))) s13)) else some (au_pt (au_cn (au_cd 14 0 s2)) s4)) = some s' := h
  obtain ⟨s2, e2⟩ := bOv_ex h
  have h := bOv_go h e2
  obtain ⟨s4, e4⟩ := bOv_ex h
  have h := bOv_go h e4
  rw [hL.2.1] at e4
  have c4 : Cap s4 := hC.bk h (fun p h => HS.ite (fun _ => HS.bOv (JM.rd n _ _ _ (JM.pt (JM.cd (JM.v h (by decide))))) (fun s13 h13 => HS.some h13.pt)) (fun _ => HS.some h.pt))
  have hc : c + 1 < 600 := by
    have c3 : Cap (au_cd 14 0 s2) := c4.bk e4 (rd_J n _ _ _)
    have c2 : Cap s2 := c3.b1 (fun p h => JM.cd h)
    have c0 : Cap s := c2.bk e2 (fun p h => JM.rd n _ _ _ (JM.v h (by decide)))
    have := c0.2.1; rw [hl.1] at this; exact this
  have sg1 : Sg s (au_nx s) a (a + 1) (c + 1) (c + 1) k k := Sg.i rfl hl (by omega) (by omega) (by omega)
  obtain ⟨a1, c1, a2, c2, k2, N, g1, g2, g3, g4, g5, g6, g7, g8, g9, g10, g11, g12, g13⟩ := pt_eb h17 hj (s0 := au_nx s) ⟨hL.nx hae, hl, hN, hv⟩ h5 e2 e4 c4
  have b8 := g8.1
  have sgA := sg1.tr g8
  have kA : (rw4 s4).1 a = 5 := by
    rw [g8.K (by omega), ← hk5, hL.ka]
    rfl
  have cA : (rw4 s4).2.2.1 c = 0 := by
    rw [sgA.C (by omega)]
    exact h0
  by_cases h6 : au_ko s4 = 6
  case neg =>
    rw [if_neg h6] at h
    cases h
    obtain ⟨sgB, d1, y1⟩ := sgA.pt (x := au_cn (au_cd 14 0 s2)) (p := c1) g12 (by omega) (by omega)
    refine ⟨a2, c2, k2, N + 1, g1.co Co_pt, by omega, g6, g7, sgB, PX1 ?_⟩
    unfold PF
    rw [if_neg (by decide), if_neg (by decide), if_neg (by decide), if_neg (by decide), if_neg (by decide), if_pos rfl]
    refine Or.inr (Or.inr (Or.inr (Or.inr (Or.inr (Or.inl ⟨kA, cA, a1, c1, a2, c2, g9.pt y1 (Or.inr (Nat.le_refl _)), g10, g11.pt y1 (Or.inl (by omega)), Or.inl ⟨?_, d1, rfl, rfl⟩⟩)))))
    show (rw4 s4).1 a2 ≠ 6
    rw [← g1.ka]
    exact h6
  rw [if_pos h6] at h
  obtain ⟨s13, e13⟩ := bOv_ex h
  have h := bOv_go h e13
  cases h
  have hae2 := g1.lt (by rw [h6]; decide)
  have he2 := g1.2.2.2.2.1
  have c13 : Cap s13 := hC.b1 (fun p h => h.pt)
  have c12 : Cap (au_pt (au_cn (au_cd 14 0 s2)) (au_cd 13 0 (au_nx s4))) := c13.bk e13 (rd_J n _ _ _)
  rw [g1.2.1] at e13
  have sg2 : Sg s4 (au_nx s4) a2 (a2 + 1) c2 c2 k2 k2 := Sg.i rfl g8.ln (by omega) (by omega) (by omega)
  obtain ⟨sg3, q1, q2⟩ := Sg.cd (s := au_nx s4) (x := 13) (y := 0) (a := a2 + 1) sg2.ln g13 (by omega)
  have hcn := cn_cd (s := au_nx s4) (x := 13) (y := 0) sg2.ln g13
  have sg23 := sg2.tr sg3
  have sgB := sgA.tr sg23
  obtain ⟨sgC, d1, y1⟩ := sgB.pt (x := au_cn (au_cd 14 0 s2)) (p := c1) g12 (by omega) (by omega)
  have hL12 : Lv (a2 + 1) e L (au_pt (au_cn (au_cd 14 0 s2)) (au_cd 13 0 (au_nx s4))) := (g1.nx hae2).co (Co_cd.tr Co_pt)
  have h512 : (au_pt (au_cn (au_cd 14 0 s2)) (au_cd 13 0 (au_nx s4))).2 5 = nI j := g7.trans h5
  obtain ⟨a3, c3, k3, N2, w1, w2, w3, w4, w5, w6⟩ := h17 j a2 (a2 + 1) e L (c2 + 1) k2 _ s13 ⟨hL12, sgC.ln, g6, sgC.l1.trans hv⟩ h512 hj e13 c13
  have b5 := w5.1
  have sgD := sgC.tr w5
  obtain ⟨sgE, d2, y2⟩ := sgD.pt (x := au_cn (au_cd 13 0 (au_nx s4))) (p := c2) hcn (by omega) (by omega)
  -- what was read first, in what is there at last
  have mv : ∀ {g j o i i' b b' : Nat}, PX (rw4 s4) (Qs s4 k k2) N g j o L i i' b b' → i' ≤ a2 → b' ≤ c2 → (c1 < b ∨ b' ≤ c1) → PX (rw4 (au_pt (au_cn (au_cd 13 0 (au_nx s4))) s13)) (Qs (au_pt (au_cn (au_cd 13 0 (au_nx s4))) s13) k k3) N g j o L i i' b b' := fun h i1 i2 i3 =>
    PX.pt (PX.sg (k0 := k) (k3 := k3) (PX.pt (PX.sg (k0 := k) (k3 := k2) h sg23.F (by omega) (by omega) (Nat.le_refl _) (Nat.le_refl _) (Nat.le_refl _)) y1 i3) w5.F (by omega) (by omega) (Nat.le_refl _) (Nat.le_refl _) (by omega)) y2 (Or.inr (by omega))
  have p3 := PX.pt (PX.ag (R' := rw4 s13) (Q' := Qs s13 k k3) (fun i c n q => q.w (by omega) (Nat.le_refl _)) N2 w6 ⟨fun _ _ _ => ⟨rfl, fun _ => rfl⟩, fun q => q, fun _ _ _ => ⟨rfl, fun _ => rfl⟩⟩) y2 (Or.inl (by omega))
  have kF : ∀ x, x < a2 + 1 → (rw4 s13).1 x = (rw4 s4).1 x := fun x hx => w5.K (by omega)
  have cF : ∀ x, x < c2 → (rw4 s13).2.2.1 x = (rw4 s4).2.2.1 x := fun x hx => by
    rw [w5.C (by omega)]
    show (rw4 (au_cd 13 0 (au_nx s4))).2.2.1 x = _
    exact sg23.C (by omega)
  refine ⟨a3, c3, k3, (N + N2) + 1, w1.co Co_pt, by omega, w3, w4.trans g7, sgE, PX1 ?_⟩
  unfold PF
  rw [if_neg (by decide), if_neg (by decide), if_neg (by decide), if_neg (by decide), if_neg (by decide), if_pos rfl]
  refine Or.inr (Or.inr (Or.inr (Or.inr (Or.inr (Or.inl ⟨?_, ?_, a1, c1, a2, c2, (mv g9 (by omega) (by omega) (Or.inr (Nat.le_refl _))).up (by omega), ?_, (mv g11 (by omega) (by omega) (Or.inl (by omega))).up (by omega), Or.inr ⟨?_, ?_, ?_, p3.up (by omega), d2⟩⟩)))))
  · exact (kF a (by omega)).trans kA
  · exact (cF c (by omega)).trans cA
  · exact (cF c1 (by omega)).trans g10
  · refine (kF a2 (by omega)).trans ?_
    rw [← g1.ka]
    exact h6
  · have : (rw4 s13).2.2.1 c2 = 13 := by
      rw [w5.C (by omega)]
      exact q1
    exact this
  · rw [y2 c1 (by omega), w5.D (by omega)]
    exact d1
theorem pt12 {n j : Nat} (h17 : D17 n) (hj : j ≤ 1) (hP : PI a e L c k s) (h5 : s.2 5 = nI j) (h7 : au_ko s = 7) (h : f_5012 (f_rd n) s = some s') (hC : Cap s') : PO 1 6 j 0 L a e c k s s' := by
  obtain ⟨hL, hl, hN, hv⟩ := hP
  have he := hL.2.2.2.2.1
  have hae := hL.lt (by rw [h7]; decide)
  unfold f_5012 at h
  have h : bOv (f_rd n 5018 (nI 1) (au_cd 0 0 (au_nx s))) (fun s2 => bOv (f_rd n 5017 (s.2 2) (au_cd 14 0 s2)) fun s4 => some (au_pt (au_cn (au_cd 14 0 s2)) (au_cd 13 (au_cn (au_cd 0 0 (au_nx s))) s4))) = some s' := h
  obtain ⟨s2, e2⟩ := bOv_ex h
  have h := bOv_go h e2
  obtain ⟨s4, e4⟩ := bOv_ex h
  have h := bOv_go h e4
  cases h
  rw [hL.2.1] at e4
  have c5 : Cap (au_cd 13 (au_cn (au_cd 0 0 (au_nx s))) s4) := hC.b1 (fun p h => h.pt)
  have c4 : Cap s4 := c5.b1 (fun p h => JM.cd h)
  have cx : Cap (au_cd 0 0 (au_nx s)) := by
    have c3 : Cap (au_cd 14 0 s2) := c4.bk e4 (rd_J n _ _ _)
    have c2 : Cap s2 := c3.b1 (fun p h => JM.cd h)
    exact c2.bk e2 (rd_J n _ _ _)
  have hc : c < 600 := cx.cd (s := au_nx s) hl
  have sg1 : Sg s (au_nx s) a (a + 1) c c k k := Sg.i rfl hl (by omega) (by omega) (by omega)
  obtain ⟨sg2, q1, q2⟩ := Sg.cd (s := au_nx s) (x := 0) (y := 0) (a := a + 1) sg1.ln hc (by omega)
  have hcn := cn_cd (s := au_nx s) (x := 0) (y := 0) sg1.ln hc
  have sg12 := sg1.tr sg2
  obtain ⟨a1, c1, a2, c2, k2, N, g1, g2, g3, g4, g5, g6, g7, g8, g9, g10, g11, g12, g13⟩ := pt_eb h17 hj (s0 := au_cd 0 0 (au_nx s)) ⟨(hL.nx hae).co Co_cd, sg2.ln, hN, sg12.l1.trans hv⟩ h5 e2 e4 c4
  have b8 := g8.1
  have he2 := g1.2.2.2.2.1
  obtain ⟨sg3, q3, q4⟩ := Sg.cd (s := s4) (x := 13) (y := au_cn (au_cd 0 0 (au_nx s))) (a := a2) g8.ln g13 (by omega)
  have sgA := (sg12.tr g8).tr sg3
  obtain ⟨sgB, d1, y1⟩ := sgA.pt (x := au_cn (au_cd 14 0 s2)) (p := c1) g12 (by omega) (by omega)
  have mv : ∀ {g j o i i' b b' : Nat}, PX (rw4 s4) (Qs s4 k k2) N g j o L i i' b b' → i' ≤ a2 → b' ≤ c2 → (c1 < b ∨ b' ≤ c1) → PX (rw4 (au_pt (au_cn (au_cd 14 0 s2)) (au_cd 13 (au_cn (au_cd 0 0 (au_nx s))) s4))) (Qs (au_pt (au_cn (au_cd 14 0 s2)) (au_cd 13 (au_cn (au_cd 0 0 (au_nx s))) s4)) k k2) N g j o L i i' b b' := fun h i1 i2 i3 =>
    PX.pt (PX.sg (k0 := k) (k3 := k2) h sg3.F (by omega) (by omega) (Nat.le_refl _) (Nat.le_refl _) (Nat.le_refl _)) y1 i3
  have hLe : Lv a2 e L (au_pt (au_cn (au_cd 14 0 s2)) (au_cd 13 (au_cn (au_cd 0 0 (au_nx s))) s4)) := g1.co (Co_cd.tr Co_pt)
  refine ⟨a2, c2 + 1, k2, N + 1, hLe, by omega, g6, g7, sgB, PX1 ?_⟩
  unfold PF
  rw [if_neg (by decide), if_neg (by decide), if_neg (by decide), if_neg (by decide), if_neg (by decide), if_pos rfl]
  refine Or.inr (Or.inr (Or.inr (Or.inr (Or.inr (Or.inr (Or.inl ⟨?_, ?_, a1, c1, c2, mv g9 (by omega) (by omega) (Or.inr (Nat.le_refl _)), ?_, mv g11 (by omega) (by omega) (Or.inl (by omega)), q3, ?_, rfl, d1⟩))))))
  · show (rw4 (au_cd 13 (au_cn (au_cd 0 0 (au_nx s))) s4)).1 a = 7
    rw [(g8.tr sg3).K (by omega), ← h7, hL.ka]
    rfl
  · show (rw4 (au_cd 13 (au_cn (au_cd 0 0 (au_nx s))) s4)).2.2.1 c = 0
    rw [(g8.tr sg3).C (by omega)]
    exact q1
  · show (rw4 (au_cd 13 (au_cn (au_cd 0 0 (au_nx s))) s4)).2.2.1 c1 = 14
    rw [sg3.C (by omega)]
    exact g10
  · rw [y1 c2 (by omega), q4]
    exact hcn
end PXB
