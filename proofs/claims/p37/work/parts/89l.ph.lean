/-! the pass over a whole text -/
section PXH
variable {s s1 s' : Sx} {a a1 a' c c1 c' k k1 k' d d' e L : Nat}
def Dl (s : Sx) (d : Nat) : Prop := (s.1 9).length = d ∧ (s.1 10).length = d ∧ (s.1 11).length = d ∧ (s.1 12).length = d
/-- the defs: each with its block -/
def DF (s : Sx) (a' c' k k' d d' : Nat) : Prop := ∀ q, d ≤ q → q < d' → ∃ N i i1 i' c0 c1 p, i < i1 ∧ i' ≤ a' ∧ c1 + 2 ≤ c' ∧ PX (rw4 s) (Qs s k k') N 7 1 i 0 i1 i' c0 c1 ∧ (rw4 s).1 i = 10 ∧ (s.1 10).getD q 0 = nI p ∧ p ≤ 8 ∧ (s.1 11).getD q 0 = nI i1 ∧ (s.1 12).getD q 0 = nI c0 ∧ (rw4 s).2.2.1 c1 = 1 ∧ (rw4 s).2.2.2 c1 = 0 ∧ (rw4 s).2.2.1 (c1 + 1) = 16
/-- the rows of defs before -/
def Do (s s' : Sx) (d : Nat) : Prop := ∀ q, q < d → (s'.1 10).getD q 0 = (s.1 10).getD q 0 ∧ (s'.1 11).getD q 0 = (s.1 11).getD q 0 ∧ (s'.1 12).getD q 0 = (s.1 12).getD q 0
theorem DF.old {k0 : Nat} (h : DF s a c k0 k d d') (hF : Fy s s' a c k) (hD : Do s s' d') (h1 : a ≤ a') (h2 : c ≤ c') (h3 : k ≤ k') : DF s' a' c' k0 k' d d' := by
  intro q q1 q2
  obtain ⟨N, i, i1, i', c0, c1, p, w0, w1, w2, w3, w4, w5, w6, w7, w8, w9, w10, w11⟩ := h q q1 q2
  have hle := PX.le N w3
  have K : ∀ x, x < a → (rw4 s').1 x = (rw4 s).1 x := fun x hx => (hF.2.1 x hx).1
  have C : ∀ x, x < c → (rw4 s').2.2.1 x = (rw4 s).2.2.1 x ∧ (rw4 s').2.2.2 x = (rw4 s).2.2.2 x := fun x hx => hF.2.2.2.1 x hx
  obtain ⟨d1, d2, d3⟩ := hD q q2
  have hi : i1 < i' := by
    cases N with
    | zero => exact w3.elim
    | succ n =>
      have hP : PF (rw4 s) (Qs s k0 k) (PX (rw4 s) (Qs s k0 k) n) 7 1 i 0 i1 i' c0 c1 := w3
      unfold PF at hP
      rw [if_neg (by decide), if_neg (by decide), if_neg (by decide), if_neg (by decide), if_neg (by decide), if_neg (by decide), if_pos rfl] at hP
      obtain ⟨_, _, _, i2, h8, _, _, e⟩ := hP
      have := PX.le n h8
      omega
  exact ⟨N, i, i1, i', c0, c1, p, w0, by omega, by omega, w3.sy hF w1 (by omega) (Nat.le_refl _) (Nat.le_refl _) h3, by rw [K i (by omega)]; exact w4, by rw [d1]; exact w5, w6, by rw [d2]; exact w7, by rw [d3]; exact w8, by rw [(C c1 (by omega)).1]; exact w9, by rw [(C c1 (by omega)).2]; exact w10, by rw [(C (c1 + 1) (by omega)).1]; exact w11⟩
theorem DF.app {d1 : Nat} (h : DF s a c k k' d d1) (h' : DF s a c k k' d1 d') : DF s a c k k' d d' := by
  intro q q1 q2
  by_cases e : q < d1
  · exact h q q1 e
  · exact h' q (by omega) q2
/-- a statement more -/
theorem PX.snoc {R : Rw} {Q : Nat → Nat → Nat → Prop} {j L i1 i2 c1 c2 N2 : Nat} (h2 : PX R Q N2 6 j 0 L i1 i2 c1 c2) : ∀ (N1 : Nat) {i c : Nat}, PX R Q N1 8 j 0 L i i1 c c1 → PX R Q (N1 + N2 + 1) 8 j 0 L i i2 c c2 := by
  intro N1
  induction N1 with
  | zero => intro i c h; exact h.elim
  | succ n ih =>
    intro i c h
    have hP : PF R Q (PX R Q n) 8 j 0 L i i1 c c1 := h
    unfold PF at hP
    rw [if_neg (by decide), if_neg (by decide), if_neg (by decide), if_neg (by decide), if_neg (by decide), if_neg (by decide), if_neg (by decide)] at hP
    refine PX1 ?_
    unfold PF
    rw [if_neg (by decide), if_neg (by decide), if_neg (by decide), if_neg (by decide), if_neg (by decide), if_neg (by decide), if_neg (by decide)]
    rcases hP with ⟨e1, e2⟩ | ⟨i3, c3, h3, h4⟩
    · subst e1
      subst e2
      refine Or.inr ⟨i2, c2, h2.up (by omega), ?_⟩
      have : PX R Q ((n + N2) + 1) 8 j 0 L i2 i2 c2 c2 := PX1 (by unfold PF; rw [if_neg (by decide), if_neg (by decide), if_neg (by decide), if_neg (by decide), if_neg (by decide), if_neg (by decide), if_neg (by decide)]; exact Or.inl ⟨rfl, rfl⟩)
      exact this.up (by omega)
    · exact Or.inr ⟨i3, c3, h3.up (by omega), (ih h4).up (by omega)⟩
theorem set_app {l : List Int32} {x y : Int32} {n : Nat} (h : l.length = n) : (l ++ [x]).set n y = l ++ [y] := by
  rw [List.set_append]
  rw [if_neg (by omega), h, Nat.sub_self]
  rfl
theorem f4010_r {x : Int32} (hD : Dl s d) (hd : d < 75) : (f_4010 x s).2 = nI d ∧ (f_4010 x s).1.1 9 = s.1 9 ++ [x] ∧ (f_4010 x s).1.1 10 = s.1 10 ++ [0] ∧ (f_4010 x s).1.1 11 = s.1 11 ++ [0] ∧ (f_4010 x s).1.1 12 = s.1 12 ++ [0] ∧ (∀ j, j < 9 ∨ 12 < j → (f_4010 x s).1.1 j = s.1 j) ∧ (f_4010 x s).1.2 = s.2 := by
  obtain ⟨d1, d2, d3, d4⟩ := hD
  have e9 : (f_4010 x s).1.1 9 = s.1 9 ++ [x] := xadd_e (show (s.1 9).length < 75 by omega)
  have e10 : (f_4010 x s).1.1 10 = s.1 10 ++ [0] := xadd_e (show (s.1 10).length < 75 by omega)
  have e11 : (f_4010 x s).1.1 11 = s.1 11 ++ [0] := xadd_e (show (s.1 11).length < 75 by omega)
  have e12 : (f_4010 x s).1.1 12 = s.1 12 ++ [0] := xadd_e (show (s.1 12).length < 75 by omega)
  refine ⟨?_, e9, e10, e11, e12, fun j hj => ?_, rfl⟩
  · show nI ((f_4010 x s).1.1 9).length - 1 = _
    rw [e9, List.length_append, d1]
    exact nI_pred d
  · show (if j = 12 then _ else if j = 11 then _ else if j = 10 then _ else if j = 9 then _ else s.1 j) = _
    rw [if_neg (by omega), if_neg (by omega), if_neg (by omega), if_neg (by omega)]
theorem f4011_r {p x y : Int32} (hd : d < 75) : (f_4011 (nI d) p x y s).1 10 = (s.1 10).set d p ∧ (f_4011 (nI d) p x y s).1 11 = (s.1 11).set d x ∧ (f_4011 (nI d) p x y s).1 12 = (s.1 12).set d y ∧ (∀ j, j < 10 ∨ 12 < j → (f_4011 (nI d) p x y s).1 j = s.1 j) ∧ (f_4011 (nI d) p x y s).2 = s.2 := by
  refine ⟨xset_n (by omega), xset_n (by omega), xset_n (by omega), fun j hj => ?_, rfl⟩
  show (if j = 12 then _ else if j = 11 then _ else if j = 10 then _ else s.1 j) = _
  rw [if_neg (by omega), if_neg (by omega), if_neg (by omega)]
theorem gD_app_l2 {l : List Int32} {x : Int32} {i n : Nat} (hl : l.length = n) (h : i < n) : (l ++ [x]).getD i 0 = l.getD i 0 := gD_app_l (by omega)
theorem pt14 {n : Nat} (hP : PI a e 0 c k s) (hD : Dl s d) (h5 : s.2 5 = 0) (h10 : au_ko s = 10) (h : f_5014 (f_rd n) s = some s') (hC : Cap s') (hC9 : (s'.1 9).length < 75) :
    ∃ a' c' k' N, Lv a' e 0 s' ∧ a + 1 ≤ a' ∧ Nl s' ∧ s'.2 5 = 0 ∧ Sy s s' a a' c c' k k' ∧ PX (rw4 s') (Qs s' k k') N 6 0 0 0 a a' c c' ∧ Dl s' (d + 1) ∧ Do s s' d ∧ DF s' a' c' k k' d (d + 1) := by
  obtain ⟨hL, hl, hN, hv⟩ := hP
  have he := hL.2.2.2.2.1
  have hae := hL.lt (by rw [h10]; decide)
  have h40 : s.2 4 ≤ 0 := by rw [hL.2.2.2.2.2.2.1]; decide
  rw [def_eq, if_pos h40] at h
  by_cases h4 : au_ko (au_nx s) = 4
  case neg =>
    rw [if_neg h4] at h
    cases h
    exact absurd hC.1 (ref_n (by decide))
  rw [if_pos h4] at h
  by_cases hnm : f_4012 (xg ((au_nx s).1 1) ((au_nx s).2 2)) (au_nx s) = -1
  case neg =>
    rw [if_neg hnm] at h
    cases h
    exact absurd hC.1 (ref_n (by decide))
  rw [if_pos hnm] at h
  have hL1 := hL.nx hae
  have hae1 := hL1.lt (by rw [h4]; decide)
  -- the state behind the name
  have hDn : Dl (au_nx s) d := hD
  generalize xg ((au_nx s).1 1) ((au_nx s).2 2) = nm at h
  unfold au_df1 at h
  obtain ⟨s13, e13⟩ := bOv_ex h
  have h := bOv_go h e13
  obtain ⟨s18, e18⟩ := bOv_ex h
  have h := bOv_go h e18
  have h := Option.some.inj h
  have c18 : Cap s18 := by
    refine hC.b1 (fun p hp => ?_)
    rw [← h]
    exact JM.B (JM.pt (JM.cd (JM.cd (JM.v hp (by decide))))) (by decide)
  have c17 := c18.bk e18 (rd_J n _ _ _)
  have c13 : Cap s13 := c17.b1 (fun p hp => JM.v hp.f4011 (by decide))
  have c12 : Cap (au_cd 13 0 (au_nx (au_sk 35 (f_4010 nm (au_nx s)).1))) := c13.bk e13 (fun p hp => JM.f15 hp)
  have hd : d < 75 := by
    have hj : JM (0, 0, d, False) s := ⟨Nat.zero_le _, Nat.zero_le _, by rw [hD.1]; exact Nat.le_refl _, fun q => q.elim⟩
    have j12 : JM (0, 0, d, False) (au_cd 13 0 (au_nx (au_sk 35 (f_4010 nm (au_nx s)).1))) := JM.cd (JM.v (JM.B (JM.f4010 (JM.v hj (by decide))) (by decide)) (by decide))
    have j13 := JM.f15 j12 s13 e13
    have j18 := JM.rd n _ _ _ (JM.v j13.f4011 (by decide)) s18 e18
    have j24 : JM (0, 0, d, False) s' := by
      rw [← h]
      exact JM.B (JM.pt (JM.cd (JM.cd (JM.v j18 (by decide))))) (by decide)
    have h1 : d ≤ (s'.1 9).length := j24.2.2.1
    omega
  obtain ⟨r0, r9, r10, r11, r12, rj, rv⟩ := f4010_r (x := nm) hDn hd
  rw [r0] at e18
  have eoB : Eo s (f_4010 nm (au_nx s)).1 := fun j hj => rj j (by omega)
  have hlB : Ln (f_4010 nm (au_nx s)).1 c k := by
    unfold Ln
    rw [rj 7 (by omega), rj 8 (by omega), rj 15 (by omega), rj 16 (by omega), rj 17 (by omega)]
    exact hl
  have coB : Co (au_nx s) (f_4010 nm (au_nx s)).1 := ⟨rj 0 (by omega), fun v _ => by rw [rv]⟩
  have hLB := hL1.co coB
  have hLC : Lv (a + 2) e 0 (au_nx (au_sk 35 (f_4010 nm (au_nx s)).1)) := (hLB.sk (x := 35) hae1 (by decide)).nx hae1
  have hc : c < 600 := by
    have h7 : ((au_nx (au_sk 35 (f_4010 nm (au_nx s)).1)).1 7).length = c := by
      rw [show (au_nx (au_sk 35 (f_4010 nm (au_nx s)).1)).1 7 = s.1 7 from rj 7 (by omega)]
      exact hl.1
    have := xadd_ge (ev_cap 7) ((au_nx (au_sk 35 (f_4010 nm (au_nx s)).1)).1 7) 13
    have h2 : (xadd (ev_cap 7) ((au_nx (au_sk 35 (f_4010 nm (au_nx s)).1)).1 7) 13).length < 600 := c12.2.1
    omega
  have sy1 : Sy s (f_4010 nm (au_nx s)).1 a (a + 1) c c k k := (Sy.i hl (by omega) (by omega) (by omega)).eo eoB
  obtain ⟨sg2, q2⟩ := Sg.sk (s' := au_nx (au_sk 35 (f_4010 nm (au_nx s)).1)) (x := 35) (a1 := a + 2) hlB hLB hae1 (by decide) (by omega) rfl (by omega) (by omega)
  obtain ⟨sg3, q3, q3'⟩ := Sg.cd (s := au_nx (au_sk 35 (f_4010 nm (au_nx s)).1)) (x := 13) (y := 0) (a := a + 2) sg2.ln hc (by omega)
  have hcn := cn_cd (s := au_nx (au_sk 35 (f_4010 nm (au_nx s)).1)) (x := 13) (y := 0) sg2.ln hc
  have syA := sy1.tr (sg2.tr sg3).y
  have hN12 : Nl (au_cd 13 0 (au_nx (au_sk 35 (f_4010 nm (au_nx s)).1))) := by
    unfold Nl
    rw [show (au_cd 13 0 (au_nx (au_sk 35 (f_4010 nm (au_nx s)).1))).1 13 = s.1 13 from rj 13 (by omega), show (au_cd 13 0 (au_nx (au_sk 35 (f_4010 nm (au_nx s)).1))).1 14 = s.1 14 from rj 14 (by omega)]
    exact hN
  obtain ⟨a1, g1, g2, ⟨g3, g4, g5, g6⟩, g7, g8⟩ := pt15 (e := e) (L := 0) (a := a + 2) (c := c + 1) (k := k) ⟨hLC.co Co_cd, sg3.ln, hN12, syA.l1.trans hv⟩ (by omega) e13 c13
  have b2 := g2.1
  have syB := syA.tr g2
  have h4006 : f_4006 s13 = nI (c + 1) := by
    show nI (s13.1 7).length = _
    rw [g4.1]
  rw [h4006, g3.2.1] at e18
  obtain ⟨t10, t11, t12, tj, tv⟩ := f4011_r (s := s13) (p := nI (s13.1 14).length) (x := nI a1) (y := nI (c + 1)) hd
  have eo17 : Eo s13 (sV (f_4011 (nI d) (nI (s13.1 14).length) (nI a1) (nI (c + 1)) s13) 5 1) := fun j hj => tj j (by omega)
  have co17 : Co s13 (f_4011 (nI d) (nI (s13.1 14).length) (nI a1) (nI (c + 1)) s13) := ⟨tj 0 (by omega), fun v _ => by rw [tv]⟩
  have hL17 : Lv a1 e 0 (sV (f_4011 (nI d) (nI (s13.1 14).length) (nI a1) (nI (c + 1)) s13) 5 1) := (g3.co co17).s5 (Or.inr rfl)
  have sy17 := syB.eo eo17
  have hN17 : Nl (sV (f_4011 (nI d) (nI (s13.1 14).length) (nI a1) (nI (c + 1)) s13) 5 1) := by
    unfold Nl
    rw [show (sV (f_4011 (nI d) (nI (s13.1 14).length) (nI a1) (nI (c + 1)) s13) 5 1).1 13 = s13.1 13 from tj 13 (by omega), show (sV (f_4011 (nI d) (nI (s13.1 14).length) (nI a1) (nI (c + 1)) s13) 5 1).1 14 = s13.1 14 from tj 14 (by omega)]
    exact g5
  rw [hL.2.1] at e18
  obtain ⟨a2, c2, k2, N, w1, w2, w3, w4, w5, w6⟩ := (dS n n (Nat.le_refl _)).2 1 a a1 e 0 (c + 1) k _ s18 ⟨hL17, sy17.ln, hN17, sy17.l1.trans hv⟩ rfl (Nat.le_refl _) e18 c18
  have b5 := w5.1
  have he2 := w1.2.2.2.2.1
  have hle2 := w1.2.2.2.1
  have sy18 := sy17.tr w5.y
  -- the end of it
  have hcap : c2 + 2 ≤ 600 := by
    have h7 : (s'.1 7).length < 600 := hC.2.1
    rw [← h] at h7
    have h7' : (xadd (ev_cap 7) (xadd (ev_cap 7) (s18.1 7) 1) 16).length < 600 := h7
    have l7 := w5.ln.1
    by_cases q1 : (s18.1 7).length < 600
    · have x1 : xadd (ev_cap 7) (s18.1 7) 1 = s18.1 7 ++ [1] := xadd_e (show (s18.1 7).length < 600 from q1)
      rw [x1] at h7'
      by_cases q2 : (s18.1 7 ++ [1]).length < 600
      · rw [List.length_append, l7] at q2
        have : [(1 : Int32)].length = 1 := rfl
        omega
      · have := xadd_ge (ev_cap 7) (s18.1 7 ++ [1]) 16
        omega
    · have := xadd_ge (ev_cap 7) (xadd (ev_cap 7) (s18.1 7) 1) 16
      have := xadd_ge (ev_cap 7) (s18.1 7) 1
      omega
  have eo19 : Eo s18 (sV s18 5 0) := fun j _ => rfl
  have sy19 := sy18.eo eo19
  obtain ⟨sg4, q4, q4'⟩ := Sg.cd (s := sV s18 5 0) (x := 1) (y := 0) (a := a2) sy19.ln (by omega) (by omega)
  obtain ⟨sg5, q5, q5'⟩ := Sg.cd (s := au_cd 1 0 (sV s18 5 0)) (x := 16) (y := 0) (a := a2) sg4.ln (by omega) (by omega)
  have sg45 := sg4.tr sg5
  have sy21 := sy19.tr sg45.y
  obtain ⟨sy23, d1, y1⟩ := sy21.pt (x := au_cn (au_cd 13 0 (au_nx (au_sk 35 (f_4010 nm (au_nx s)).1)))) (p := c) hcn (Nat.le_refl _) (by omega)
  have hl23 : ((au_pt (au_cn (au_cd 13 0 (au_nx (au_sk 35 (f_4010 nm (au_nx s)).1)))) (au_cd 16 0 (au_cd 1 0 (sV s18 5 0)))).1 1).length = e + 1 := sy23.l1.trans hv
  obtain ⟨sy24, d2, y2⟩ := sy23.sv (x := s.2 2) (v := s18.2 2) (t := a) hL.2.1 (Nat.le_refl _) (by omega) (by omega)
  rw [h] at sy24 d2 y2
  have hle : Lv a2 e 0 s' := by
    rw [← h]
    exact (w1.s5 (Or.inl rfl)).co ((Co_cd.tr Co_cd).tr (Co_pt.tr Co_sv))
  have hs5 : s'.2 5 = 0 := by rw [← h]; rfl
  -- rows of s' out of those of s18
  have K' : ∀ x, (rw4 s').1 x = (rw4 s18).1 x := fun x => by rw [← h]; rfl
  have R' : ∀ j, j ≠ 1 → j ≠ 7 → j ≠ 8 → s'.1 j = s18.1 j := fun j h1 h7 h8 => by
    rw [← h]
    show (if j = 1 then _ else if j = 8 then _ else if j = 8 then _ else if j = 7 then _ else if j = 8 then _ else if j = 7 then _ else s18.1 j) = _
    rw [if_neg h1, if_neg h8, if_neg h8, if_neg h7, if_neg h8, if_neg h7]
  have C' : ∀ x, (rw4 s').2.2.1 x = (rw4 (au_cd 16 0 (au_cd 1 0 (sV s18 5 0)))).2.2.1 x := fun x => by rw [← h]; rfl
  have D' : ∀ x, x ≠ c → (rw4 s').2.2.2 x = (rw4 (au_cd 16 0 (au_cd 1 0 (sV s18 5 0)))).2.2.2 x := fun x hx => by
    refine Eq.trans ?_ (y1 x hx)
    rw [← h]
    rfl
  have V' : ∀ x, x ≠ a → (rw4 s').2.1 x = (rw4 s18).2.1 x := fun x hx => y2 x hx
  have ag : Ag (rw4 s18) (rw4 s') a1 a2 (c + 1) c2 := by
    refine ⟨fun x h1 h2 => ⟨K' x, fun _ => V' x (by omega)⟩, fun q => by rw [K']; exact q, fun x h1 h2 => ⟨?_, fun _ => ?_⟩⟩
    · rw [C', sg45.C (by omega)]
      rfl
    · rw [D' x (by omega), sg45.D (by omega)]
      rfl
  have hq : ∀ i x m, Qs s18 k k2 i x m → Qs s' k k2 i x m := fun i x m ⟨q, z1, z2, z3, z4, z5⟩ => ⟨q, z1, z2, by rw [R' 15 (by decide) (by decide) (by decide)]; exact z3, by rw [R' 16 (by decide) (by decide) (by decide)]; exact z4, by rw [R' 17 (by decide) (by decide) (by decide)]; exact z5⟩
  have p1 := PX.ag hq N w6 ag
  have kA : (rw4 s').1 a = 10 := by
    rw [K', w5.K (by omega), eo17.rw, g2.K (by omega), (sg2.tr sg3).K (by omega), eoB.rw, ← h10, hL.ka]
  have cA : (rw4 s').2.2.1 c = 13 := by
    rw [C', sg45.C (by omega)]
    show (rw4 s18).2.2.1 c = 13
    rw [w5.C (by omega), eo17.rw, g2.C (by omega)]
    exact q3
  have dA : (rw4 s').2.2.2 c = nI (c2 + 2) := by
    rw [← h]
    exact d1
  have cB : (rw4 s').2.2.1 c2 = 1 ∧ (rw4 s').2.2.2 c2 = 0 := by
    rw [C', D' c2 (by omega), sg5.C (by omega), sg5.D (by omega)]
    exact ⟨q4, q4'⟩
  have cC : (rw4 s').2.2.1 (c2 + 1) = 16 := by
    rw [C']
    exact q5
  -- rows of defs
  have g9 := g8
  have x9 : s18.1 9 = s.1 9 ++ [nm] := by
    rw [w5.2.2.2.1.2.2.2.2.2 9 (by omega) (by omega), show (sV (f_4011 (nI d) (nI (s13.1 14).length) (nI a1) (nI (c + 1)) s13) 5 1).1 9 = s13.1 9 from tj 9 (by omega), g8 9 (by omega) (by omega)]
    exact r9
  have x10 : s18.1 10 = s.1 10 ++ [nI (s13.1 14).length] := by
    rw [w5.2.2.2.1.2.2.2.2.2 10 (by omega) (by omega)]
    refine t10.trans ?_
    rw [g8 10 (by omega) (by omega), show (au_cd 13 0 (au_nx (au_sk 35 (f_4010 nm (au_nx s)).1))).1 10 = s.1 10 ++ [0] from r10]
    exact set_app hD.2.1
  have x11 : s18.1 11 = s.1 11 ++ [nI a1] := by
    rw [w5.2.2.2.1.2.2.2.2.2 11 (by omega) (by omega)]
    refine t11.trans ?_
    rw [g8 11 (by omega) (by omega), show (au_cd 13 0 (au_nx (au_sk 35 (f_4010 nm (au_nx s)).1))).1 11 = s.1 11 ++ [0] from r11]
    exact set_app hD.2.2.1
  have x12 : s18.1 12 = s.1 12 ++ [nI (c + 1)] := by
    rw [w5.2.2.2.1.2.2.2.2.2 12 (by omega) (by omega)]
    refine t12.trans ?_
    rw [g8 12 (by omega) (by omega), show (au_cd 13 0 (au_nx (au_sk 35 (f_4010 nm (au_nx s)).1))).1 12 = s.1 12 ++ [0] from r12]
    exact set_app hD.2.2.2
  obtain ⟨dl1, dl2, dl3, dl4⟩ := hD
  have y9 := (R' 9 (by decide) (by decide) (by decide)).trans x9
  have y10 := (R' 10 (by decide) (by decide) (by decide)).trans x10
  have y11 := (R' 11 (by decide) (by decide) (by decide)).trans x11
  have y12 := (R' 12 (by decide) (by decide) (by decide)).trans x12
  refine ⟨a2, c2 + 2, k2, 1, hle, by omega, ?_, hs5, sy24, PX1 ?_, ⟨?_, ?_, ?_, ?_⟩, fun q hq => ?_, fun q h1 h2 => ?_⟩
  · unfold Nl
    rw [R' 13 (by decide) (by decide) (by decide), R' 14 (by decide) (by decide) (by decide)]
    exact w3
  · unfold PF
    rw [if_neg (by decide), if_neg (by decide), if_neg (by decide), if_neg (by decide), if_neg (by decide), if_pos rfl]
    refine Or.inr (Or.inr (Or.inr (Or.inr (Or.inr (Or.inr (Or.inr ⟨kA, rfl, rfl, cA, dA, ?_, by omega, by omega⟩))))))
    rw [d2]
    exact w1.2.1
  · rw [y9, List.length_append, dl1]; rfl
  · rw [y10, List.length_append, dl2]; rfl
  · rw [y11, List.length_append, dl3]; rfl
  · rw [y12, List.length_append, dl4]; rfl
  · rw [y10, y11, y12, gD_app_l2 dl2 hq, gD_app_l2 dl3 hq, gD_app_l2 dl4 hq]
    exact ⟨rfl, rfl, rfl⟩
  · have e : q = d := by omega
    subst e
    refine ⟨N, a, a1, a2, c + 1, c2, (s13.1 14).length, by omega, Nat.le_refl _, Nat.le_refl _, p1, kA, ?_, g5.2, ?_, ?_, cB.1, cB.2, cC⟩
    · rw [y10, ← dl2, gD_app_r]
    · rw [y11, ← dl3, gD_app_r]
    · rw [y12, ← dl4, gD_app_r]
/-- what is known at each statement of a text -/
def Gd (e : Nat) (s0 s : Sx) : Prop := Cap s → (s.1 9).length < 75 → ∃ a c k d N, PI a e 0 c k s ∧ s.2 5 = 0 ∧ Dl s d ∧ Sy s0 s 0 a 0 c 0 k ∧ PX (rw4 s) (Qs s 0 k) N 8 0 0 0 0 a 0 c ∧ DF s a c 0 k 0 d
theorem Gd.go {s0 : Sx} (h : Gd e s0 s) (h8 : f_rd 900 5008 0 s = some s') : Gd e s0 s' := by
  intro hC h9
  have c0 : Cap s := hC.bk h8 (rd_J 900 _ _ _)
  have j9 : JM (0, 0, (s.1 9).length, False) s := ⟨Nat.zero_le _, Nat.zero_le _, Nat.le_refl _, fun q => q.elim⟩
  have g9 : (s.1 9).length ≤ (s'.1 9).length := (JM.rd 900 _ _ _ j9 s' h8).2.2.1
  obtain ⟨a, c, k, d, N, hP, h5, hD, hS, hX, hF⟩ := h c0 (by omega)
  have key : ∃ a' c' k' N2 d', Lv a' e 0 s' ∧ a + 1 ≤ a' ∧ Nl s' ∧ s'.2 5 = 0 ∧ Sy s s' a a' c c' k k' ∧ PX (rw4 s') (Qs s' k k') N2 6 0 0 0 a a' c c' ∧ Dl s' d' ∧ d ≤ d' ∧ Do s s' d ∧ DF s' a' c' k k' d d' := by
    by_cases h10 : au_ko s = 10
    · have h8 : f_5008 (f_rd 899) s = some s' := (rd_08 899 s).symm.trans h8
      unfold f_5008 at h8
      have h8 : (if au_ko s = 7 then f_5008_J39 (f_rd 899) (au_pn (au_bp s)) (au_ko s) (au_bp s) else if au_ko s = 10 then f_5008_J39 (f_rd 899) (au_pn (au_bp s)) (au_ko s) (au_bp s) else f_5008_J39 (f_rd 899) (au_pn (au_bp s)) (au_ko s) (au_cd 0 0 (au_bp s))) = some s' := h8
      rw [if_neg (by rw [h10]; decide), if_pos h10, j39, if_neg (by rw [h10]; decide), if_neg (by rw [h10]; decide), if_neg (by rw [h10]; decide), if_neg (by rw [h10]; decide), if_pos h10] at h8
      obtain ⟨s4, e4⟩ := bOv_ex h8
      have h8 := bOv_go h8 e4
      cases h8
      have e4 : f_5014 (f_rd 898) (au_bp s) = some s4 := e4
      have c4 : Cap s4 := hC.b1 (fun p h => h.ep)
      obtain ⟨a', c', k', N2, w1, w2, w3, w4, w5, w6, w7, w8, w9⟩ := pt14 hP.bp (show Dl (au_bp s) d from hD) h5 h10 e4 c4 h9
      have he := hP.1.2.2.2.2.1
      have hle := hP.1.2.2.2.1
      have eo0 : Eo s (au_bp s) := fun j hj => Er.bp j (by omega) (by omega)
      have eo1 : Eo s4 (au_ep (au_pn (au_bp s)) s4) := fun j hj => Er.ep j (by omega) (by omega)
      have sy0 : Sy s (au_bp s) a a c c k k := (Sy.i hP.2.1 (Nat.le_refl _) (by omega) (by have := c0.2.1; rw [hP.2.1.1] at this; omega)).eo eo0
      refine ⟨a', c', k', N2, d + 1, w1.co Co_ep, w2, Er.ep.nl w3, w4, (sy0.tr w5).eo eo1, ?_, w7, Nat.le_succ _, w8, ?_⟩
      · rw [eo1.rw, eo1.qs]
        exact w6
      · intro q q1 q2
        rw [eo1.rw, eo1.qs]
        exact w9 q q1 q2
    · obtain ⟨a', c', k', N2, w1, w2, w3, w4, w5, w6⟩ := (dS 900 900 (Nat.le_refl _)).1 0 a e 0 c k s s' hP h5 (Nat.zero_le _) (Or.inl h10) h8 hC
      have ef := w5.2.2.2.1.2.2.2.2.2
      refine ⟨a', c', k', N2, d, w1, w2, w3, w4.trans h5, w5.y, w6, ?_, Nat.le_refl _, fun q _ => ?_, fun q q1 q2 => by omega⟩
      · unfold Dl
        rw [ef 9 (by omega) (by omega), ef 10 (by omega) (by omega), ef 11 (by omega) (by omega), ef 12 (by omega) (by omega)]
        exact hD
      · rw [ef 10 (by omega) (by omega), ef 11 (by omega) (by omega), ef 12 (by omega) (by omega)]
        exact ⟨rfl, rfl, rfl⟩
  obtain ⟨a', c', k', N2, d', w1, w2, w3, w4, w5, w6, w7, w8, w9, w10⟩ := key
  have b5 := w5.1
  have p1 := PX.sy (k0 := 0) (k3 := k') hX w5.F (Nat.le_refl _) (Nat.le_refl _) (Nat.le_refl _) (Nat.le_refl _) (by omega)
  have p2 := PX.ag (R' := rw4 s') (Q' := Qs s' 0 k') (fun i c n q => q.w (by omega) (Nat.le_refl _)) N2 w6 ⟨fun _ _ _ => ⟨rfl, fun _ => rfl⟩, fun q => q, fun _ _ _ => ⟨rfl, fun _ => rfl⟩⟩
  refine ⟨a', c', k', d', N + N2 + 1, ⟨w1, w5.ln, w3, w5.l1.trans hP.2.2.2⟩, w4, w7, hS.tr w5, PX.snoc p2 N p1, (hF.old w5.F w9 (by omega) (by omega) (by omega)).app ?_⟩
  intro q q1 q2
  obtain ⟨M, i, i1, i', c0, c1, p, z0, z1, z2, z3, z4⟩ := w10 q q1 q2
  exact ⟨M, i, i1, i', c0, c1, p, z0, z1, z2, PX.ag (fun i c n q => q.w (by omega) (Nat.le_refl _)) M z3 ⟨fun _ _ _ => ⟨rfl, fun _ => rfl⟩, fun q => q, fun _ _ _ => ⟨rfl, fun _ => rfl⟩⟩, z4⟩
end PXH
