/-! the pass over defs -/
section PXG
variable {s s1 s' : Sx} {a a1 a' c c1 c' k k1 k' e L : Nat}
def Fy (s s' : Sx) (a c k : Nat) : Prop := (s'.1 1).length = (s.1 1).length ∧ (∀ x, x < a → (s'.1 0).getD x 0 = (s.1 0).getD x 0 ∧ (s'.1 1).getD x 0 = (s.1 1).getD x 0) ∧ (∀ x, (s.1 0).getD x 0 ≠ 6 → (s'.1 0).getD x 0 ≠ 6) ∧ (∀ x, x < c → (s'.1 7).getD x 0 = (s.1 7).getD x 0 ∧ (s'.1 8).getD x 0 = (s.1 8).getD x 0) ∧ (∀ q, q < k → (s'.1 15).getD q 0 = (s.1 15).getD q 0 ∧ (s'.1 16).getD q 0 = (s.1 16).getD q 0 ∧ (s'.1 17).getD q 0 = (s.1 17).getD q 0)
def Sy (s s' : Sx) (a a' c c' k k' : Nat) : Prop := (a ≤ a' ∧ a' ≤ 300 ∧ c ≤ c' ∧ c' ≤ 600 ∧ k ≤ k') ∧ Ln s c k ∧ Ln s' c' k' ∧ Fy s s' a c k ∧ CI s' a a' c c' k k'
theorem Fx.y (h : Fx s s' a c k) : Fy s s' a c k := ⟨h.1, h.2.1, h.2.2.1, h.2.2.2.1, h.2.2.2.2.1⟩
theorem Sg.y (h : Sg s s' a a' c c' k k') : Sy s s' a a' c c' k k' := ⟨h.1, h.2.1, h.2.2.1, h.2.2.2.1.y, h.2.2.2.2⟩
theorem Fy.tr (h : Fy s s1 a c k) (h' : Fy s1 s' a1 c1 k1) (ha : a ≤ a1) (hc : c ≤ c1) (hk : k ≤ k1) : Fy s s' a c k := by
  obtain ⟨p1, p2, p3, p4, p5⟩ := h
  obtain ⟨q1, q2, q3, q4, q5⟩ := h'
  refine ⟨q1.trans p1, fun x hx => ?_, fun x hx => q3 x (p3 x hx), fun x hx => ?_, fun q hq => ?_⟩
  · rw [(q2 x (by omega)).1, (q2 x (by omega)).2]
    exact p2 x hx
  · rw [(q4 x (by omega)).1, (q4 x (by omega)).2]
    exact p4 x hx
  · rw [(q5 q (by omega)).1, (q5 q (by omega)).2.1, (q5 q (by omega)).2.2]
    exact p5 q hq
theorem CI.oldy (h : CI s1 a a1 c c1 k k1) (h' : Fy s1 s' a1 c1 k1) : CI s' a a1 c c1 k k1 := by
  obtain ⟨q1, q2, q3, q4, q5⟩ := h'
  intro q h1 h2
  obtain ⟨t, x, w1, w2, w3, w4, w5, w6, w7, w8, w9⟩ := h q h1 h2
  refine ⟨t, x, by rw [(q5 q h2).1]; exact w1, w2, w3, by rw [(q5 q h2).2.2]; exact w4, w5, w6, by rw [(q4 x w6).1]; exact w7, by rw [(q2 t w3).1]; exact w8, fun p h3 h4 => ?_⟩
  rw [(q5 p (by omega)).1, (q5 p (by omega)).2.2]
  exact w9 p h3 h4
theorem Sy.tr (h : Sy s s1 a a1 c c1 k k1) (h' : Sy s1 s' a1 a' c1 c' k1 k') : Sy s s' a a' c c' k k' := by
  obtain ⟨⟨p1, p2, p3, p4, p5⟩, p6, p7, p8, p9⟩ := h
  obtain ⟨⟨q1, q2, q3, q4, q5⟩, q6, q7, q8, q9⟩ := h'
  exact ⟨⟨by omega, q2, by omega, q4, by omega⟩, p6, q7, p8.tr q8 p1 p3 p5, (p9.oldy q8).app q9 p1 q1 q2 p3 q3 q4⟩
/-- rows that are not looked at here -/
def Eo (s s' : Sx) : Prop := ∀ j, j = 0 ∨ j = 1 ∨ j = 7 ∨ j = 8 ∨ 15 ≤ j → s'.1 j = s.1 j
theorem Eo.rw (h : Eo s s') : rw4 s' = rw4 s := by
  unfold rw4
  rw [h 0 (by decide), h 1 (by decide), h 7 (by decide), h 8 (by decide)]
theorem Eo.qs (h : Eo s s') : Qs s' = Qs s := by
  unfold Qs
  rw [h 15 (by decide), h 16 (by decide), h 17 (by decide)]
theorem Sy.eo (h : Sy s s1 a a' c c' k k') (e : Eo s1 s') : Sy s s' a a' c c' k k' := by
  unfold Sy Ln Fy CI at h ⊢
  rw [e 0 (by decide), e 1 (by decide), e 7 (by decide), e 8 (by decide), e 15 (by decide), e 16 (by decide), e 17 (by decide)]
  exact h
theorem Sy.i (hl : Ln s c k) (ha : a ≤ a') (h3 : a' ≤ 300) (hc : c ≤ 600) : Sy s s a a' c c k k := (Sg.i rfl hl ha h3 hc).y
theorem PX.sy {k0 k2 k3 : Nat} {n g j o l i i' b b' : Nat} (h : PX (rw4 s1) (Qs s1 k k2) n g j o l i i' b b') (hS : Fy s1 s' a1 c1 k1) (h1 : i' ≤ a1) (h2 : b' ≤ c1) (h3 : k2 ≤ k1) (h4 : k0 ≤ k) (h5 : k2 ≤ k3) : PX (rw4 s') (Qs s' k0 k3) n g j o l i i' b b' := by
  obtain ⟨q1, q2, q3, q4, q5⟩ := hS
  refine PX.ag (fun i c m hq => ?_) n h ⟨fun x _ hx => ⟨(q2 x (by omega)).1, fun _ => (q2 x (by omega)).2⟩, q3 i', fun x _ hx => ⟨(q4 x (by omega)).1, fun _ => (q4 x (by omega)).2⟩⟩
  obtain ⟨q, w1, w2, w3, w4, w5⟩ := hq
  exact ⟨q, by omega, by omega, by rw [(q5 q (by omega)).1]; exact w3, by rw [(q5 q (by omega)).2.1]; exact w4, by rw [(q5 q (by omega)).2.2]; exact w5⟩
theorem Sy.K (h : Sy s s' a a' c c' k k') {x : Nat} (hx : x < a) : (rw4 s').1 x = (rw4 s).1 x := (h.2.2.2.1.2.1 x hx).1
theorem Sy.V (h : Sy s s' a a' c c' k k') {x : Nat} (hx : x < a) : (rw4 s').2.1 x = (rw4 s).2.1 x := (h.2.2.2.1.2.1 x hx).2
theorem Sy.C (h : Sy s s' a a' c c' k k') {x : Nat} (hx : x < c) : (rw4 s').2.2.1 x = (rw4 s).2.2.1 x := (h.2.2.2.1.2.2.2.1 x hx).1
theorem Sy.D (h : Sy s s' a a' c c' k k') {x : Nat} (hx : x < c) : (rw4 s').2.2.2 x = (rw4 s).2.2.2 x := (h.2.2.2.1.2.2.2.1 x hx).2
theorem Sy.F (h : Sy s s' a a' c c' k k') : Fy s s' a c k := h.2.2.2.1
theorem Sy.ln (h : Sy s s' a a' c c' k k') : Ln s' c' k' := h.2.2.1
theorem Sy.l1 (h : Sy s s' a a' c c' k k') : (s'.1 1).length = (s.1 1).length := h.2.2.2.1.1
theorem Sy.pt {x : Int32} {p : Nat} (h : Sy s s1 a a' c c' k k') (hx : x = nI p) (hp : c ≤ p) (hp2 : p < c') : Sy s (au_pt x s1) a a' c c' k k' ∧ (rw4 (au_pt x s1)).2.2.2 p = nI c' ∧ ∀ z, z ≠ p → (rw4 (au_pt x s1)).2.2.2 z = (rw4 s1).2.2.2 z := by
  obtain ⟨⟨p1, p2, p3, p4, p5⟩, p6, ⟨l1, l2, l3, l4, l5⟩, ⟨f1, f2, f3, f4, f5⟩, p9⟩ := h
  have e8 : (au_pt x s1).1 8 = (s1.1 8).set p (nI c') := by
    show xset (s1.1 8) x (nI (s1.1 7).length) = _
    rw [hx, xset_n (by omega), l1]
  have ej : ∀ j, j ≠ 8 → (au_pt x s1).1 j = s1.1 j := fun j hj => if_neg hj
  refine ⟨⟨⟨p1, p2, p3, p4, p5⟩, p6, ⟨?_, ?_, ?_, ?_, ?_⟩, ⟨?_, fun z hz => ?_, fun z hz => ?_, fun z hz => ?_, fun z hz => ?_⟩, ?_⟩, ?_, fun z hz => ?_⟩
  · rw [ej 7 (by decide)]; exact l1
  · rw [e8, List.length_set]; exact l2
  · rw [ej 15 (by decide)]; exact l3
  · rw [ej 16 (by decide)]; exact l4
  · rw [ej 17 (by decide)]; exact l5
  · rw [ej 1 (by decide)]; exact f1
  · rw [ej 0 (by decide), ej 1 (by decide)]; exact f2 z hz
  · rw [ej 0 (by decide)]; exact f3 z hz
  · rw [ej 7 (by decide), e8, gD_set_n (by omega)]; exact f4 z hz
  · rw [ej 15 (by decide), ej 16 (by decide), ej 17 (by decide)]; exact f5 z hz
  · unfold CI
    rw [ej 15 (by decide), ej 17 (by decide), ej 7 (by decide), ej 0 (by decide)]
    exact p9
  · show ((au_pt x s1).1 8).getD p 0 = _
    rw [e8, gD_set_s (by omega)]
  · show ((au_pt x s1).1 8).getD z 0 = (s1.1 8).getD z 0
    rw [e8, gD_set_n (fun q => hz q.symm)]
theorem Sy.sv {x v : Int32} {t : Nat} (h : Sy s s1 a a' c c' k k') (hx : x = nI t) (hp : a ≤ t) (ht : t < (s1.1 1).length) (ht3 : t ≤ 300) : Sy s (au_sv x v s1) a a' c c' k k' ∧ (rw4 (au_sv x v s1)).2.1 t = v ∧ ∀ z, z ≠ t → (rw4 (au_sv x v s1)).2.1 z = (rw4 s1).2.1 z := by
  obtain ⟨⟨p1, p2, p3, p4, p5⟩, p6, ⟨l1, l2, l3, l4, l5⟩, ⟨f1, f2, f3, f4, f5⟩, p9⟩ := h
  have e1 : (au_sv x v s1).1 1 = (s1.1 1).set t v := by
    show xset (s1.1 1) x v = _
    rw [hx, xset_n (by omega)]
  have ej : ∀ j, j ≠ 1 → (au_sv x v s1).1 j = s1.1 j := fun j hj => if_neg hj
  refine ⟨⟨⟨p1, p2, p3, p4, p5⟩, p6, ⟨?_, ?_, ?_, ?_, ?_⟩, ⟨?_, fun z hz => ?_, fun z hz => ?_, fun z hz => ?_, fun z hz => ?_⟩, ?_⟩, ?_, fun z hz => ?_⟩
  · rw [ej 7 (by decide)]; exact l1
  · rw [ej 8 (by decide)]; exact l2
  · rw [ej 15 (by decide)]; exact l3
  · rw [ej 16 (by decide)]; exact l4
  · rw [ej 17 (by decide)]; exact l5
  · rw [e1, List.length_set]; exact f1
  · rw [ej 0 (by decide), e1, gD_set_n (by omega)]; exact f2 z hz
  · rw [ej 0 (by decide)]; exact f3 z hz
  · rw [ej 7 (by decide), ej 8 (by decide)]; exact f4 z hz
  · rw [ej 15 (by decide), ej 16 (by decide), ej 17 (by decide)]; exact f5 z hz
  · unfold CI
    rw [ej 15 (by decide), ej 17 (by decide), ej 7 (by decide), ej 0 (by decide)]
    exact p9
  · show ((au_sv x v s1).1 1).getD t 0 = _
    rw [e1, gD_set_s ht]
  · show ((au_sv x v s1).1 1).getD z 0 = (s1.1 1).getD z 0
    rw [e1, gD_set_n (fun q => hz q.symm)]
/-- a parameter -/
theorem pt16 (hP : PI a e L c k s) (hc : c ≤ 600) (hC : (f_5016 s).2 0 = 0) : Sg s (f_5016 s) a (a + 1) c c k k ∧ PI (a + 1) e L c k (f_5016 s) ∧ (f_5016 s).2 5 = s.2 5 := by
  obtain ⟨hL, hl, hN, hv⟩ := hP
  unfold f_5016 at hC ⊢
  by_cases h4 : f_5003 s = 4
  · rw [if_pos h4] at hC ⊢
    by_cases hx : xpos (s.1 14) (xg (s.1 1) (s.2 2)) = -1
    · rw [if_pos hx] at hC ⊢
      have hae := hL.lt (show au_ko s ≠ 0 by rw [show au_ko s = 4 from h4]; decide)
      obtain ⟨g1, g2, g3, g4, _⟩ := Sg.var (x := 14) (Or.inr rfl) hL hae hl hN hv hc hC
      exact ⟨g1, ⟨g2, g1.ln, g3, g1.l1.trans hv⟩, g4⟩
    · rw [if_neg hx] at hC
      exact absurd hC (ref_n (by decide))
  · rw [if_neg h4] at hC
    exact absurd hC (ref_n (by decide))
theorem pt81 (hP : PI a e (L + 1) c k s) (hc : c ≤ 600) (h : f_5015_J81 s = some s') (hC : s'.2 0 = 0) : Sg s s' a (a + 1) c c k k ∧ PI (a + 1) e L c k s' ∧ s'.2 5 = s.2 5 := by
  obtain ⟨hL, hl, hN, hv⟩ := hP
  have he := hL.2.2.2.2.1
  have h : some (au_dn (f_5006 29 s)) = some s' := h
  have h := Option.some.inj h
  rw [← h] at hC
  obtain ⟨q1, q2⟩ := ex_ok (s := s) hC
  rw [q2] at h
  subst h
  have hae := hL.lt (by rw [q1]; decide)
  have sg : Sg s (au_dn (au_nx s)) a (a + 1) c c k k := Sg.i rfl hl (by omega) (by omega) hc
  exact ⟨sg, ⟨(hL.nx hae).dn, sg.ln, hN, hv⟩, rfl⟩
theorem f16_J {p : Nat × Nat × Nat × Prop} (h : JM p s) : JM p (f_5016 s) := JM.f16 h
theorem pt45 : ∀ (m : Nat) (l : Int32) (a : Nat) (s s' : Sx), PI a e (L + 1) c k s → c ≤ 600 → f_5015_L45 m l s = some s' → Cap s' → ∃ a', a < a' ∧ Sg s s' a a' c c k k ∧ PI a' e L c k s' ∧ s'.2 5 = s.2 5 := by
  intro m
  induction m with
  | zero => intro l a s s' _ _ h; cases h
  | succ m ih =>
    intro l a s s' hP hc h hC
    have he := hP.1.2.2.2.2.1
    have stop : f_5015_J81 s = some s' → ∃ a', a < a' ∧ Sg s s' a a' c c k k ∧ PI a' e L c k s' ∧ s'.2 5 = s.2 5 := fun h => by
      obtain ⟨g1, g2, g3⟩ := pt81 hP hc h hC.1
      exact ⟨a + 1, by omega, g1, g2, g3⟩
    rw [f_5015_L45] at h
    by_cases h3 : 300 ≤ l
    · rw [if_pos h3] at h
      exact stop h
    rw [if_neg h3, show f_5003 s = au_ko s from rfl] at h
    by_cases hq : au_ko s = 32
    case neg =>
      rw [if_neg hq] at h
      exact stop h
    rw [if_pos hq] at h
    have h : f_5015_L45 m (l + 1) (f_5016 (au_nx s)) = some s' := h
    have c2 : Cap (f_5016 (au_nx s)) := hC.bk h (fun p h => JM.L45 _ _ _ h)
    have hae := hP.1.lt (by rw [hq]; decide)
    have sg1 : Sg s (au_nx s) a (a + 1) c c k k := Sg.i rfl hP.2.1 (by omega) (by omega) hc
    obtain ⟨g1, g2, g3⟩ := pt16 (s := au_nx s) ⟨hP.1.nx hae, hP.2⟩ hc c2.1
    obtain ⟨a', w1, w2, w3, w4⟩ := ih _ _ _ _ g2 hc h hC
    exact ⟨a', by omega, (sg1.tr g1).tr w2, w3, w4.trans g3⟩
theorem pt15 (hP : PI a e L c k s) (hc : c ≤ 600) (h : f_5015 s = some s') (hC : Cap s') : ∃ a', a < a' ∧ Sy s s' a a' c c k k ∧ PI a' e L c k s' ∧ s'.2 5 = s.2 5 ∧ ∀ j, 9 ≤ j → j ≤ 12 → s'.1 j = s.1 j := by
  obtain ⟨hL, hl, hN, hv⟩ := hP
  have he := hL.2.2.2.2.1
  have hle := hL.2.2.2.1
  unfold f_5015 at h
  rw [bS_eq, show f_5003 (sB s 14 []) = au_ko s from rfl] at h
  by_cases h28 : au_ko s = 28
  case neg =>
    rw [if_neg h28, bS_eq] at h
    have h := Option.some.inj h
    have h0 := hC.1
    rw [← h] at h0
    exact absurd h0 (ref_n (by decide))
  rw [if_pos h28, bS_eq, bS_eq, show f_5003 (f_5007 (sB s 14 [])) = au_ko (f_5007 (sB s 14 [])) from rfl] at h
  have c1 : Cap (f_5007 (sB s 14 [])) := hC.bk h (fun p h => HS.ite (fun _ => h.J81) (fun _ => JM.L45 _ _ _ (JM.f16 h)))
  obtain ⟨h8, e8⟩ := op_ok c1.1
  have h8' : L < 8 := hL.l8.1 h8
  rw [e8] at h c1
  have hae := hL.lt (by rw [h28]; decide)
  have hLz : Lv a e L (sB s 14 []) := hL.co (Co_sB (by decide))
  have hP2 : PI (a + 1) e (L + 1) c k (au_up (sB s 14 [])) := ⟨hLz.up hae h8', hl, ⟨hN.1, Nat.zero_le _⟩, hv⟩
  have eo : Eo s (au_up (sB s 14 [])) := fun j hj => if_neg (by omega)
  have sg0 : Sy s (au_up (sB s 14 [])) a (a + 1) c c k k := (Sy.i hl (by omega) (by omega) hc).eo eo
  have ef : ∀ j, 9 ≤ j → j ≤ 12 → (au_up (sB s 14 [])).1 j = s.1 j := fun j h1 h2 => if_neg (by omega)
  by_cases h29 : au_ko (au_up (sB s 14 [])) = 29
  · rw [if_pos h29] at h
    obtain ⟨g1, g2, g3⟩ := pt81 hP2 hc h hC.1
    exact ⟨a + 2, by omega, sg0.tr g1.y, g2, g3, fun j h1 h2 => (g1.2.2.2.1.2.2.2.2.2 j h1 h2).trans (ef j h1 h2)⟩
  · rw [if_neg h29] at h
    have c2 : Cap (f_5016 (au_up (sB s 14 []))) := hC.bk h (fun p h => JM.L45 _ _ _ h)
    obtain ⟨g1, g2, g3⟩ := pt16 hP2 hc c2.1
    obtain ⟨a', w1, w2, w3, w4⟩ := pt45 400 0 _ _ _ g2 hc h hC
    exact ⟨a', by omega, sg0.tr (g1.tr w2).y, w3, w4.trans g3, fun j h1 h2 => ((g1.tr w2).2.2.2.1.2.2.2.2.2 j h1 h2).trans (ef j h1 h2)⟩
end PXG
