/-! the pass over every statement that is no def -/
section PXF
variable {s s1 s' : Sx} {a a1 a' c c1 c' k k1 k' e L : Nat}
def Er (s s' : Sx) : Prop := ∀ j, j ≠ 5 → j ≠ 6 → s'.1 j = s.1 j
theorem Er.rw (h : Er s s') : rw4 s' = rw4 s := by
  unfold rw4
  rw [h 0 (by decide) (by decide), h 1 (by decide) (by decide), h 7 (by decide) (by decide), h 8 (by decide) (by decide)]
theorem Er.qs (h : Er s s') : Qs s' = Qs s := by
  unfold Qs
  rw [h 15 (by decide) (by decide), h 16 (by decide) (by decide), h 17 (by decide) (by decide)]
theorem Er.ln (h : Er s s') (hl : Ln s c k) : Ln s' c k := by
  unfold Ln
  rw [h 7 (by decide) (by decide), h 8 (by decide) (by decide), h 15 (by decide) (by decide), h 16 (by decide) (by decide), h 17 (by decide) (by decide)]
  exact hl
theorem Er.nl (h : Er s s') (hl : Nl s) : Nl s' := by
  unfold Nl
  rw [h 13 (by decide) (by decide), h 14 (by decide) (by decide)]
  exact hl
theorem Sg.er (h : Sg s s1 a a' c c' k k') (e : Er s1 s') : Sg s s' a a' c c' k k' := by
  obtain ⟨h1, h2, h3, h4, h5⟩ := h
  refine ⟨h1, h2, e.ln h3, ?_, ?_⟩
  · unfold Fx
    rw [e 0 (by decide) (by decide), e 1 (by decide) (by decide), e 7 (by decide) (by decide), e 8 (by decide) (by decide), e 15 (by decide) (by decide), e 16 (by decide) (by decide), e 17 (by decide) (by decide)]
    obtain ⟨p1, p2, p3, p4, p5, p6⟩ := h4
    exact ⟨p1, p2, p3, p4, p5, fun j h1 h2 => (e j (by omega) (by omega)).trans (p6 j h1 h2)⟩
  · unfold CI
    rw [e 15 (by decide) (by decide), e 17 (by decide) (by decide), e 7 (by decide) (by decide), e 0 (by decide) (by decide)]
    exact h5
theorem Er.bp : Er s (au_bp s) := fun j h5 h6 => by
  show (if j = 6 then _ else if j = 5 then _ else s.1 j) = _
  rw [if_neg h6, if_neg h5]
theorem Er.ep {p : Int32} : Er s (au_ep p s) := fun j h5 h6 => if_neg h6
theorem PO.ep {w g j o : Nat} {p : Int32} (h : PO w g j o L a e c k s s1) : PO w g j o L a e c k s (au_ep p s1) := by
  obtain ⟨a', c', k', N, h1, h2, h3, h4, h5, h6⟩ := h
  refine ⟨a', c', k', N, h1.co Co_ep, h2, Er.ep.nl h3, h4, h5.er Er.ep, ?_⟩
  rw [Er.rw Er.ep, Er.qs Er.ep]
  exact h6
theorem PI.bp (h : PI a e L c k s) : PI a e L c k (au_bp s) := ⟨h.1.co Co_bp, Er.bp.ln h.2.1, Er.bp.nl h.2.2.1, by rw [Er.bp 1 (by decide) (by decide)]; exact h.2.2.2⟩
/-- with the code that asks for fuel -/
theorem PS.po {j : Nat} {p : Int32} (hP : PI a e L c k s) (hc : c < 600) (h : PI a e L (c + 1) k (au_cd 0 0 (au_bp s)) → (rw4 (au_cd 0 0 (au_bp s))).2.2.1 c = 0 → PS j L a e c k (au_cd 0 0 (au_bp s)) s1) : PO 1 6 j 0 L a e c k s (au_ep p s1) := by
  have he := hP.1.2.2.2.2.1
  have hle := hP.1.2.2.2.1
  have hb := hP.bp
  obtain ⟨sg, q1, q2⟩ := Sg.cd (s := au_bp s) (x := 0) (y := 0) (a := a) hb.2.1 hc (by omega)
  have sg0 : Sg s (au_bp s) a a c c k k := (Sg.i (s' := s) rfl hP.2.1 (Nat.le_refl _) (by omega) (by omega)).er Er.bp
  obtain ⟨a', c', k', N, h1, h2, h3, h4, h5, h6⟩ := h ⟨hb.1.co Co_cd, sg.ln, hb.2.2.1, sg.l1.trans hb.2.2.2⟩ q1
  exact PO.ep ⟨a', c', k', N, h1, h2, h3, h4, (sg0.tr sg).tr h5, h6⟩
theorem rd_sub {n y : Nat} {s1 s' : Sx} (h : f_rd n y 0 s1 = some s') : ∃ m, n = m + 1 := by
  cases n with
  | zero => cases h
  | succ n => exact ⟨n, rfl⟩
theorem d08 {n : Nat} (h17 : ∀ m, m < n → D17 m) : D08 (n + 1) := by
  intro j a e L c k s s' hP h5 hj h10 h hC
  rw [rd_08] at h
  unfold f_5008 at h
  have h : (if au_ko s = 7 then f_5008_J39 (f_rd n) (au_pn (au_bp s)) (au_ko s) (au_bp s) else if au_ko s = 10 then f_5008_J39 (f_rd n) (au_pn (au_bp s)) (au_ko s) (au_bp s) else f_5008_J39 (f_rd n) (au_pn (au_bp s)) (au_ko s) (au_cd 0 0 (au_bp s))) = some s' := h
  have c0 : Cap s := hC.bk h (fun p h => HS.ite (fun _ => JM.J39 (JM.rd n) h.bp) (fun _ => HS.ite (fun _ => JM.J39 (JM.rd n) h.bp) (fun _ => JM.J39 (JM.rd n) h.bp.cd)))
  have hc : c < 600 := by have := c0.2.1; rw [hP.2.1.1] at this; exact this
  by_cases c7 : au_ko s = 7
  · rw [if_pos c7, j39, if_neg (by rw [c7]; decide), if_neg (by rw [c7]; decide), if_pos c7] at h
    obtain ⟨s4, e4⟩ := bOv_ex h
    have h := bOv_go h e4
    cases h
    obtain ⟨m, rfl⟩ := rd_sub e4
    have e4 : f_5012 (f_rd m) (au_bp s) = some s4 := e4
    have c4 : Cap s4 := hC.b1 (fun p h => h.ep)
    have := PO.ep (p := au_pn (au_bp s)) (pt12 (h17 m (by omega)) hj hP.bp h5 c7 e4 c4)
    have he := hP.1.2.2.2.2.1
    have hle := hP.1.2.2.2.1
    have sg0 : Sg s (au_bp s) a a c c k k := (Sg.i (s' := s) rfl hP.2.1 (Nat.le_refl _) (by omega) (by omega)).er Er.bp
    obtain ⟨a', c', k', N, h1, h2, h3, h4, h5, h6⟩ := this
    exact ⟨a', c', k', N, h1, h2, h3, h4, sg0.tr h5, h6⟩
  rw [if_neg c7] at h
  by_cases c10 : au_ko s = 10
  · exfalso
    rcases h10 with q | q
    · exact q c10
    · rw [if_pos c10, j39, if_neg (by rw [c10]; decide), if_neg (by rw [c10]; decide), if_neg c7, if_neg (by rw [c10]; decide), if_pos c10] at h
      obtain ⟨s4, e4⟩ := bOv_ex h
      have h := bOv_go h e4
      cases h
      obtain ⟨m, rfl⟩ := rd_sub e4
      have e4 : f_5014 (f_rd m) (au_bp s) = some s4 := e4
      have hn : ¬ (au_bp s).2 4 ≤ 0 := by
        show ¬ s.2 4 ≤ 0
        rw [hP.1.2.2.2.2.2.2.1, i_le, nI_T (by have := hP.1.2.2.2.2.2.2.2.1; omega)]
        have : (0 : Int32).toInt = 0 := rfl
        omega
      rw [def_eq, if_neg hn] at e4
      cases e4
      exact absurd hC.1 (ref_n (s := au_bp s) (f := 3) (t := (au_bp s).2 2) (by decide))
  rw [if_neg c10, j39] at h
  by_cases c4 : au_ko s = 4
  · rw [if_pos c4] at h
    obtain ⟨s4, e4⟩ := bOv_ex h
    have h := bOv_go h e4
    cases h
    obtain ⟨m, rfl⟩ := rd_sub e4
    have e4 : f_5009 (f_rd m) (au_cd 0 0 (au_bp s)) = some s4 := e4
    have cc : Cap s4 := hC.b1 (fun p h => h.ep)
    exact PS.po hP hc (fun hp q => pt09 hp q c4 e4 cc)
  rw [if_neg c4] at h
  by_cases c5 : au_ko s = 5
  · rw [if_pos c5] at h
    obtain ⟨s4, e4⟩ := bOv_ex h
    have h := bOv_go h e4
    cases h
    obtain ⟨m, rfl⟩ := rd_sub e4
    have e4 : f_5011 (f_rd m) (au_cd 0 0 (au_bp s)) = some s4 := e4
    have cc : Cap s4 := hC.b1 (fun p h => h.ep)
    exact PS.po hP hc (fun hp q => pt11 (h17 m (by omega)) hj hp h5 q c5 e4 cc)
  rw [if_neg c5, if_neg c7] at h
  by_cases c8 : au_ko s = 8
  · rw [if_pos c8] at h
    obtain ⟨s8, e8⟩ := bOv_ex h
    have h := bOv_go h e8
    cases h
    have cc : Cap (f_5006 33 (au_cd 6 0 s8)) := hC.b1 (fun p h => h.ep)
    exact PS.po hP hc (fun hp q => pt08 (n := n) hp q c8 (by rw [e8]; rfl) cc)
  rw [if_neg c8, if_neg c10] at h
  by_cases c11 : au_ko s = 11
  · rw [if_pos c11] at h
    obtain ⟨s4, e4⟩ := bOv_ex h
    have h := bOv_go h e4
    cases h
    obtain ⟨m, rfl⟩ := rd_sub e4
    have e4 : f_5013 (f_rd m) (au_cd 0 0 (au_bp s)) = some s4 := e4
    have cc : Cap s4 := hC.b1 (fun p h => h.ep)
    refine PS.po hP hc (fun hp q => ?_)
    obtain ⟨w1, w2⟩ := pt13 hp q c11 e4 cc
    have hj1 : j = 1 := by
      rcases Nat.lt_or_ge j 1 with r | r
      · exfalso
        apply w1
        show s.2 5 = 0
        rw [h5, show j = 0 by omega]
        rfl
      · omega
    rw [hj1]
    exact w2
  rw [if_neg c11] at h
  by_cases c26 : au_ko s = 26
  · rw [if_pos c26] at h
    obtain ⟨s4, e4⟩ := bOv_ex h
    have h := bOv_go h e4
    cases h
    obtain ⟨m, rfl⟩ := rd_sub e4
    have e4 : f_5010 (f_rd m) (au_cd 0 0 (au_bp s)) = some s4 := e4
    have cc : Cap s4 := hC.b1 (fun p h => h.ep)
    exact PS.po hP hc (fun hp q => pt10 hp q c26 e4 cc)
  rw [if_neg c26] at h
  have h := Option.some.inj h
  exfalso
  have h0 := hC.1
  rw [← h] at h0
  exact absurd h0 (ref_n (s := au_cd 0 0 (au_bp s)) (f := 3) (t := (au_cd 0 0 (au_bp s)).2 2) (by decide))
theorem dS (N : Nat) : ∀ n, n ≤ N → D08 n ∧ D17 n := by
  induction N with
  | zero =>
    intro n hn
    have : n = 0 := by omega
    subst this
    exact ⟨(fun j a e L c k s s' _ _ _ _ h => by cases h), (fun j o a e L c k s s' _ _ _ h => by cases h)⟩
  | succ N ih =>
    intro n hn
    by_cases q : n ≤ N
    · exact ih n q
    · have : n = N + 1 := by omega
      subst this
      exact ⟨d08 (fun m hm => (ih m (by omega)).2), d17 (ih N (Nat.le_refl _)).1⟩
end PXF
