/-! the reader and the automaton: if, while, def; a statement -/
theorem opr46 {x : Ae} {bl : List Ae} {s'' s' : Sx} {ops : List Ae} (hx : x.1 = 46 ∨ x.1 = 47) (h1 : ∀ z, z ∈ ops → nI 1 ≤ lvK z.1) (h2 : (au_fl (nI 1) ops s'').2 = s') (h3 : lvK (au_ko s') < nI 1 ∨ lvK (au_ko s') = 7) :
    au_acc (s'', 4, ops ++ [x], bl) = if au_ko (au_cd 14 0 s') = 30 then au_lv (au_cd 14 0 s') (fun s2 => .inl (s2, 0, [], (if x.1 = 46 then 5 else 7, x.2.1, au_cn (au_cd 14 0 s'), if x.1 = 46 then 0 else x.2.2.2.1, x.2.2.1, (au_cd 14 0 s').2 2) :: bl)) else .inr (3, (au_cd 14 0 s').2 2) := by
  obtain ⟨x0, xr⟩ := x
  have hk : au_ko (au_cd 14 0 s') = au_ko s' := rfl
  have ha : (au_cd 14 0 s').2 2 = s'.2 2 := rfl
  rw [hk, ha]
  rcases hx with h | h
  all_goals
    change x0 = _ at h
    subst h
    rw [opr_e h1 h2 (by decide +kernel) h3]
    by_cases q : au_ko s' = 30
    · simp [q]
    · simp [q]
theorem HdOK_46 {x : Ae} (hx : x.1 = 46 ∨ x.1 = 47) : HdOK (nI 1) [x] := by
  obtain ⟨x0, xr⟩ := x
  rcases hx with h | h
  all_goals
    change x0 = _ at h
    subst h
    unfold HdOK
    dsimp only
    exact ⟨by decide +kernel, by decide, by decide, by decide⟩
/-- an expression and its block -/
theorem expB {n : Nat} (h18 : C18 (n + 1)) (h17 : C17 (n + 1)) {a e L a1 : Nat} {s s1 : Sx} {bl : List Ae} {x : Ae} {k0 : Nat} (hx : x.1 = 46 ∨ x.1 = 47) (hL : Lv a1 e L s1) (ha : a < a1) (hn : 49 + 20 * (8 - L) ≤ n) (h5 : s1.2 5 = s.2 5)
    (hk : au_it k0 (s, 0, [], bl) = .inl (s1, 2, [x], bl)) :
    ∃ s2, f_rd (n + 1) 5018 (nI 1) s1 = some s2 ∧ ((∃ d f t k, f_rd (n + 1) 5017 x.2.2.1 (au_cd 14 0 s2) = some d ∧ Dd f t d ∧ au_it k (s, 0, [], bl) = .inr (f, t)) ∨
      (L < 8 ∧ ∃ b, b = (if x.1 = 46 then 5 else 7, x.2.1, au_cn (au_cd 14 0 s2), if x.1 = 46 then 0 else x.2.2.2.1, x.2.2.1, (au_cd 14 0 s2).2 2) ∧ ∃ k u a2, f_rd (n + 1) 5017 x.2.2.1 (au_cd 14 0 s2) = some (au_clb b u) ∧ au_it (k + 1) (s, 0, [], bl) = .inl (au_cls u b bl) ∧ Lv a2 e (L + 1) u ∧ a2 < e ∧ a < a2 ∧ u.2 5 = s.2 5)) := by
  rcases h18 1 (by omega) (by omega) a1 e L s1 2 [x] bl hL (by omega) (Or.inl rfl) (HdOK_46 hx) with ⟨f, t, kk, d, g1, g2, g3⟩ | ⟨k1, t'', ops1, t', a2, e1, e2, e3, e4, e5, e6, e7, e8⟩
  · refine ⟨d, g1, Or.inl ?_⟩
    obtain ⟨d2, w1, w2⟩ := dd_17 (n := n) (o := x.2.2.1) (g3.co (Co_cd (c := 14) (x := 0)))
    exact ⟨d2, f, t, k0 + kk, w1, w2, by rw [au_it_add hk]; exact g2⟩
  · refine ⟨t', e1, ?_⟩
    have q := opr46 (bl := bl) hx e3 e4 e8
    rcases blkH (s := au_cd 14 0 t') h17 (e5.co Co_cd) (by omega) rfl q with ⟨f, t, kk, d, g1, g2, g3⟩ | ⟨hl, kk, u, a3, g1, g2, g3, g4, g5, g6⟩
    · exact Or.inl ⟨d, f, t, k0 + (k1 + kk), g1, g3, by rw [au_it_add hk, au_it_add e2]; exact g2⟩
    · refine Or.inr ⟨hl, _, rfl, k0 + (k1 + kk), u, a3, g1, ?_, g3, g4, by omega, ?_⟩
      · rw [show k0 + (k1 + kk) + 1 = k0 + (k1 + (kk + 1)) by omega, au_it_add hk, au_it_add e2]
        exact g2
      · exact g6.trans ((show (au_cd 14 0 t').2 5 = t'.2 5 from rfl).trans (e7.trans h5))
theorem x12 {n : Nat} (h18 : C18 (n + 1)) (h17 : C17 (n + 1)) {a e L : Nat} {s : Sx} {bl : List Ae} (hL : Lv a e L s) (hn : 49 + 20 * (8 - L) ≤ n) (h7 : au_ko s = 7) :
    GoS (bOv (f_rd (n + 2) 5012 0 (au_bp s)) fun s4 => some (au_ep (au_pn (au_bp s)) s4)) a e L s bl := by
  have hae := hL.lt (by rw [h7]; decide)
  have hac : au_acc (s, 0, [], bl) = au_s0 s bl := ac0
  unfold au_s0 au_st at hac
  rw [h7, if_neg (by decide), if_neg (by decide), if_neg (by decide), if_neg (by decide), if_neg (by decide), if_pos rfl] at hac
  have hL1 : Lv (a + 1) e L (au_cd 0 0 (au_nx (au_bp s))) := ((hL.co Co_bp).nx hae).co Co_cd
  rw [rd_12]
  unfold f_5012
  obtain ⟨s2, r1, hh⟩ := expB h18 h17 (a := a) (s := s) (bl := bl) (x := (47, au_pn (au_bp s), s.2 2, au_cn (au_cd 0 0 (au_nx (au_bp s))), 0, 0)) (k0 := 1) (Or.inr rfl) hL1 (by omega) hn rfl (by rw [au_it_s hac]; rfl)
  show GoS (bOv (bOv (f_rd (n + 1) 5018 (nI 1) (au_cd 0 0 (au_nx (au_bp s)))) _) _) a e L s bl
  rw [r1]
  show GoS (bOv (bOv (f_rd (n + 1) 5017 (s.2 2) (au_cd 14 0 s2)) _) _) a e L s bl
  rcases hh with ⟨d, f, t, k, g1, g2, g3⟩ | ⟨hl, b, hb, k, u, a2, g1, g2, g3, g4, g5, g6⟩
  · rw [g1]
    exact Or.inl ⟨f, t, k, _, rfl, g3, ((g2.co Co_cd).co Co_pt).co Co_ep⟩
  · rw [g1]
    dsimp only at hb
    rw [if_neg (by decide), if_neg (by decide)] at hb
    have hc : au_cls u b bl = (au_ep b.2.1 (au_pt b.2.2.1 (au_cd 13 b.2.2.2.1 (au_clb b u))), 0, [], bl) := by
      unfold au_cls
      rw [hb]
      dsimp only
      rw [if_neg (by decide), if_neg (by decide), if_pos rfl]
    rw [hc] at g2
    refine Or.inr ⟨k, _, au_ep b.2.1 (au_pt b.2.2.1 (au_cd 13 b.2.2.2.1 (au_clb b u))), a2 + 1, ?_, g2, au_set_n (by decide), (((g3.clb g4).co Co_cd).co Co_pt).co Co_ep, by omega, g6⟩
    rw [hb]
    rfl
theorem x11 {n : Nat} (h18 : C18 (n + 1)) (h17 : C17 (n + 1)) {a e L : Nat} {s : Sx} {bl : List Ae} (hL : Lv a e L s) (hn : 49 + 20 * (8 - L) ≤ n) (h5 : au_ko s = 5) :
    GoS (bOv (f_rd (n + 2) 5011 0 (au_cd 0 0 (au_bp s))) fun s4 => some (au_ep (au_pn (au_bp s)) s4)) a e L s bl := by
  have hae := hL.lt (by rw [h5]; decide)
  have hac : au_acc (s, 0, [], bl) = au_s0 s bl := ac0
  unfold au_s0 au_st at hac
  rw [h5, if_neg (by decide), if_neg (by decide), if_neg (by decide), if_neg (by decide), if_pos rfl] at hac
  have hL1 : Lv (a + 1) e L (au_nx (au_cd 0 0 (au_bp s))) := (hL.co (Co_bp.tr Co_cd)).nx hae
  rw [rd_11]
  unfold f_5011
  obtain ⟨s2, r1, hh⟩ := expB h18 h17 (a := a) (s := s) (bl := bl) (x := (46, au_pn (au_bp s), s.2 2, 0, 0, 0)) (k0 := 1) (Or.inl rfl) hL1 (by omega) hn rfl (by rw [au_it_s hac]; rfl)
  show GoS (bOv (bOv (f_rd (n + 1) 5018 (nI 1) (au_nx (au_cd 0 0 (au_bp s)))) _) _) a e L s bl
  rw [r1]
  show GoS (bOv (bOv (f_rd (n + 1) 5017 (s.2 2) (au_cd 14 0 s2)) _) _) a e L s bl
  rcases hh with ⟨d, f, t, k, g1, g2, g3⟩ | ⟨hl, b, hb, k, u, a2, g1, g2, g3, g4, g5, g6⟩
  · rw [g1]
    show GoS (bOv (if f_5003 d = 6 then _ else _) _) a e L s bl
    rw [g2.ko, if_neg (by decide)]
    exact Or.inl ⟨f, t, k, _, rfl, g3, (g2.co Co_pt).co Co_ep⟩
  · rw [g1]
    dsimp only at hb
    rw [if_pos rfl, if_pos rfl] at hb
    have hc : au_cls u b bl = (au_clb b u, 1, [(51, b.2.1, b.2.2.1, 0, 0, 0)], bl) := by
      unfold au_cls
      rw [hb]
      dsimp only
      rw [if_pos rfl]
    rw [hc] at g2
    have hL4 : Lv (a2 + 1) e L (au_clb b u) := g3.clb g4
    have hb1 : b.2.1 = au_pn (au_bp s) := by rw [hb]
    have hb2 : b.2.2.1 = au_cn (au_cd 14 0 s2) := by rw [hb]
    show GoS (bOv (if au_ko (au_clb b u) = 6 then _ else _) _) a e L s bl
    generalize hg : au_clb b u = s4 at *
    have h45 : s4.2 5 = s.2 5 := by rw [← hg]; exact g6
    by_cases h6 : au_ko s4 = 6
    · rw [if_pos h6]
      have ha2 := hL4.lt (by rw [h6]; decide)
      have q1 := ac1 (s := s4) (e := (51, b.2.1, b.2.2.1, 0, 0, 0)) (r := []) (bl := bl) h6
      have hL5 : Lv (a2 + 1 + 1) e L (au_pt b.2.2.1 (au_cd 13 0 (au_nx s4))) := (((hL4.nx ha2).co Co_cd).co Co_pt)
      have q2 := ac7 (s := au_pt b.2.2.1 (au_cd 13 0 (au_nx s4))) (e := (52, b.2.1, s4.2 2, au_cn (au_cd 13 0 (au_nx s4)), 0, 0)) (r := []) (bl := bl)
      rw [if_pos rfl] at q2
      have hk1 : au_it (k + 1 + 1) (s, 0, [], bl) = .inl (au_pt b.2.2.1 (au_cd 13 0 (au_nx s4)), 7, [(52, b.2.1, s4.2 2, au_cn (au_cd 13 0 (au_nx s4)), 0, 0)], bl) := by
        rw [au_it_add g2, au_it_s q1]
        rfl
      have hR : ∀ R : Option Sx, f_rd (n + 1) 5017 (s4.2 2) (au_pt b.2.2.1 (au_cd 13 0 (au_nx s4))) = R → (bOv (bS (sV s4 2 (s4.2 2 + 1)) fun s9 => bT (f_4005 13 0 s9) fun s10 r10 => bS (f_4009 (nI ((f_4005 14 0 s2).1.1 7).length - 1) (f_4006 s10) s10) fun s12 => bOv (f_rd (n + 1) 5017 (s4.2 2) s12) fun s13 => bS (f_4009 r10 (f_4006 s13) s13) fun s15 => some s15) fun s4 => some (au_ep (au_pn (au_bp s)) s4)) = bOv R (fun s13 => some (au_ep b.2.1 (au_pt (au_cn (au_cd 13 0 (au_nx s4))) s13))) := by
        intro R hR
        rw [← hR, hb1, hb2]
        show bOv (bOv (f_rd (n + 1) 5017 (s4.2 2) (au_pt (au_cn (au_cd 14 0 s2)) (au_cd 13 0 (au_nx s4)))) _) _ = _
        cases f_rd (n + 1) 5017 (s4.2 2) (au_pt (au_cn (au_cd 14 0 s2)) (au_cd 13 0 (au_nx s4))) <;> rfl
      rcases blkH h17 hL5 (by omega) rfl q2 with ⟨f, t, kk, d, w1, w2, w3⟩ | ⟨_, kk, v, a3, w1, w2, w3, w4, w5, w6⟩
      · refine Or.inl ⟨f, t, k + 1 + 1 + kk, au_ep b.2.1 (au_pt (au_cn (au_cd 13 0 (au_nx s4))) d), ?_, by rw [au_it_add hk1]; exact w2, (w3.co Co_pt).co Co_ep⟩
        exact (hR _ w1).trans rfl
      · have hc2 : au_cls v (6, b.2.1, au_cn (au_cd 13 0 (au_nx s4)), 0, s4.2 2, (au_pt b.2.2.1 (au_cd 13 0 (au_nx s4))).2 2) bl = (au_ep b.2.1 (au_pt (au_cn (au_cd 13 0 (au_nx s4))) (au_clb (6, b.2.1, au_cn (au_cd 13 0 (au_nx s4)), 0, s4.2 2, (au_pt b.2.2.1 (au_cd 13 0 (au_nx s4))).2 2) v)), 0, [], bl) := by
          unfold au_cls
          dsimp only
          rw [if_neg (by decide), if_pos rfl]
        have w2' := w2.trans (congrArg Sum.inl hc2)
        refine Or.inr ⟨k + 1 + 1 + kk, _, _, a3 + 1, (hR _ w1).trans rfl, ?_, au_set_n (by decide), (((w3.clb w4).co Co_pt).co Co_ep), by omega, ?_⟩
        · rw [Nat.add_assoc (k + 1 + 1), au_it_add hk1]
          exact w2'
        · exact w6.trans h45
    · rw [if_neg h6]
      have hs : au_set (s4, 1, [(51, b.2.1, b.2.2.1, 0, 0, 0)], bl) = (au_ep b.2.1 (au_pt b.2.2.1 s4), 0, [], bl) := if_pos ⟨rfl, h6⟩
      refine Or.inr ⟨k, _, au_ep b.2.1 (au_pt b.2.2.1 s4), a2 + 1, ?_, g2, hs, (hL4.co Co_pt).co Co_ep, by omega, h45⟩
      rw [hb1, hb2]
      rfl
