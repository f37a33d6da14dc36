/-! the reader and the automaton: each statement -/
theorem j39 (l1 l2 : Int32) (rec : Nat → Int32 → Sx → Option Sx) (s : Sx) : f_5008_J39 rec l1 l2 s =
    if l2 = 4 then bOv (rec 5009 0 s) fun s4 => some (au_ep l1 s4)
    else if l2 = 5 then bOv (rec 5011 0 s) fun s4 => some (au_ep l1 s4)
    else if l2 = 7 then bOv (rec 5012 0 s) fun s4 => some (au_ep l1 s4)
    else if l2 = 8 then bOv (rec 5018 (nI 1) (au_nx s)) fun s8 => some (au_ep l1 (f_5006 33 (au_cd 6 0 s8)))
    else if l2 = 10 then bOv (rec 5014 0 s) fun s4 => some (au_ep l1 s4)
    else if l2 = 11 then bOv (rec 5013 0 s) fun s4 => some (au_ep l1 s4)
    else if l2 = 26 then bOv (rec 5010 0 s) fun s4 => some (au_ep l1 s4)
    else some (au_ep l1 (f_5005 3 (s.2 2) s)) := by
  unfold f_5008_J39
  have hz : f_5008_J225 rec l1 l2 s = some (au_ep l1 (f_5005 3 (s.2 2) s)) := rfl
  rw [hz]
  by_cases c4 : l2 = 4
  · rw [if_pos c4, if_pos c4]; rfl
  by_cases c5 : l2 = 5
  · rw [if_neg c4, if_neg c4, if_pos c5, if_pos c5]; rfl
  by_cases c7 : l2 = 7
  · subst c7; rfl
  by_cases c8 : l2 = 8
  · subst c8; rfl
  by_cases c10 : l2 = 10
  · subst c10; rfl
  by_cases c11 : l2 = 11
  · subst c11; rfl
  by_cases c26 : l2 = 26
  · subst c26; rfl
  rw [if_neg c4, if_neg c5, if_neg c7, if_neg c8, if_neg c10, if_neg c11, if_neg c26, if_neg c4, if_neg c5, if_neg c7, if_neg c8, if_neg c10, if_neg c11, if_neg c26]
  simp only [ite_self]
theorem au_en50 {p y z u v : Int32} {r bl : List Ae} {s : Sx} : au_en bl ((50, p, y, z, u, v) :: r) s = (au_cd 7 0 s, 14, (54, p, y, z, u, v) :: r, bl) := by
  unfold au_en
  dsimp only
  rw [if_neg (by decide), if_neg (by decide), if_pos rfl]
theorem au_en48 {p y z u v : Int32} {r bl : List Ae} {s : Sx} : au_en bl ((48, p, y, z, u, v) :: r) s = (au_dn s, 6, (49, p, y, z, u, v) :: r, bl) := by
  unfold au_en
  dsimp only
  rw [if_neg (by decide), if_pos rfl]
theorem cell_eq (rec : Nat → Int32 → Sx → Option Sx) (s : Sx) : f_5010 rec s = bS (f_5007 (au_sk 37 s)) (fun s2 => bOv (rec 5019 0 s2) fun s3 => bOv (rec 5018 (nI 1) (f_5006 27 (au_dn s3))) fun s6 => some (f_5006 33 (au_cd 4 0 s6))) := by
  unfold f_5010
  rw [bS_eq]
  rfl
theorem x09 {n : Nat} (h18 : C18 n) (h21 : C21 n) {a e L : Nat} {s : Sx} {bl : List Ae} (hL : Lv a e L s) (hn : 49 + 20 * (8 - L) ≤ n) (h4 : au_ko s = 4) :
    GoS (bOv (f_rd (n + 1) 5009 0 (au_cd 0 0 (au_bp s))) fun s4 => some (au_ep (au_pn (au_bp s)) s4)) a e L s bl := by
  have hae := hL.lt (by rw [h4]; decide)
  have co : Co s (au_cd 0 0 (au_bp s)) := Co_bp.tr Co_cd
  have hL1 := hL.co co
  have hac : au_acc (s, 0, [], bl) = au_s0 s bl := ac0
  unfold au_s0 au_st at hac
  rw [if_neg (by rw [h4]; decide), if_pos h4] at hac
  rw [rd_09]
  unfold f_5009
  rw [co.nx]
  by_cases hx : xg (s.1 0) (s.2 2 + 1) = 28
  · rw [if_pos hx] at hac ⊢
    rcases h21 a e L (au_cd 0 0 (au_bp s)) [(50, au_pn (au_bp s), s.2 2, 0, 0, 0)] bl _ hL1 (by rw [co.ko]; exact h4) (by rw [co.nx]; exact hx) (by omega) rfl with ⟨f, t, kk, d, g1, g2, g3⟩ | ⟨k1, t', a1, e1, e2, e3, e4, e5⟩
    · rw [g1]
      exact Or.inl ⟨f, t, kk + 1, _, rfl, by rw [au_it_s hac]; exact g2, ((g3.co Co_cd).ex (x := 33) (by decide)).co Co_ep⟩
    · rw [e1]
      have e2' : au_it (k1 + 1) (s, 0, [], bl) = .inl (au_cd 7 0 t', 14, [(54, au_pn (au_bp s), s.2 2, 0, 0, 0)], bl) := by
        rw [au_it_s hac, e2, au_en50]
      have q := ac14 (s := au_cd 7 0 t') (e := (54, au_pn (au_bp s), s.2 2, 0, 0, 0)) (r := []) (bl := bl)
      by_cases h33 : au_ko (au_cd 7 0 t') = 33
      · rw [if_pos h33] at q
        have ha1 := (e3.co (Co_cd (c := 7) (x := 0))).lt (by rw [h33]; decide)
        refine Or.inr ⟨k1 + 1, _, au_ep (au_pn (au_bp s)) (au_nx (au_cd 7 0 t')), a1 + 1, ?_, ?_, au_set_n (by decide), ((e3.co Co_cd).nx ha1).co Co_ep, by omega, e5⟩
        · show some (au_ep _ (f_5006 33 (au_cd 7 0 t'))) = _
          rw [ex_y h33]
        · rw [au_it_add e2', au_it_s q]
          rfl
      · rw [if_neg h33] at q
        refine Or.inl ⟨3, (au_cd 7 0 t').2 2, k1 + 1 + 1, au_ep (au_pn (au_bp s)) (f_5006 33 (au_cd 7 0 t')), rfl, ?_, ?_⟩
        · rw [au_it_add e2', au_it_f q]
        · rw [ex_n h33]
          exact ((e3.co Co_cd).ref (by decide)).co Co_ep
  · rw [if_neg hx] at hac ⊢
    unfold au_var at hac
    have hnm : f_5004 (au_cd 0 0 (au_bp s)) = f_5004 s := rfl
    rw [hnm]
    by_cases cv : xpos ((au_cd 0 0 (au_bp s)).1 (f_5004 s)) (xg ((au_cd 0 0 (au_bp s)).1 1) ((au_cd 0 0 (au_bp s)).2 2)) = -1 ∧ ¬ nI ((au_cd 0 0 (au_bp s)).1 (f_5004 s)).length < 8
    · rw [if_pos cv] at hac
      rw [var_f cv]
      have hD : Dd 5 ((au_cd 0 0 (au_bp s)).2 2) (f_5006 27 (f_5005 5 ((au_cd 0 0 (au_bp s)).2 2) (au_cd 0 0 (au_bp s)))) := (hL1.ref (by decide)).ex (by decide)
      obtain ⟨d, w1, w2⟩ := dd_18 n 1 _ hD (by omega) (by omega) (by omega)
      refine Or.inl (RdF.one (s' := au_ep (au_pn (au_bp s)) (f_5006 33 (au_cd 3 0 d))) ?_ hac (((w2.co Co_cd).ex (by decide)).co Co_ep))
      show bOv (bOv (f_rd n 5018 (nI 1) _) _) _ = _
      rw [w1]
      rfl
    · rw [if_neg cv] at hac
      obtain ⟨w1, w2⟩ := var_ok hL1 hae (names_ne s) cv
      generalize hv : f_5022 (f_5004 s) (au_cd 0 0 (au_bp s)) = v at hac w1 w2
      show GoS (bOv (bOv (f_rd n 5018 (nI 1) (f_5006 27 v.1)) fun s6 => some (f_5006 33 (au_cd 3 v.2 s6))) _) a e L s bl
      have q := ac56 (s := v.1) (st := 5) (op := [(43, au_pn (au_bp s), s.2 2, v.2, 0, 0)]) (bl := bl) (Or.inl rfl)
      by_cases h27 : au_ko v.1 = 27
      · rw [if_pos h27] at q
        rw [ex_y h27]
        have ha1 := w1.lt (by rw [h27]; decide)
        obtain ⟨o1, o2, o3⟩ := opr43 (c := 3) (y := v.2) (x := (43, au_pn (au_bp s), s.2 2, v.2, 0, 0)) (bl := bl) (Or.inl ⟨rfl, rfl, rfl⟩)
        have := stmE h18 (a := a) (s := s) (s1 := au_nx v.1) (bl := bl) (k0 := 1 + 1) (w1.nx ha1) (by omega) (by omega) (w2.trans (co.2 5 (by decide))) (by rw [au_it_s hac, au_it_s q]; rfl) o1 o2 o3
        rw [show (bOv (bOv (f_rd n 5018 (nI 1) (au_nx v.1)) fun s6 => some (f_5006 33 (au_cd 3 v.2 s6))) fun s4 => some (au_ep (au_pn (au_bp s)) s4)) = bOv (f_rd n 5018 (nI 1) (au_nx v.1)) (fun s6 => some (au_ep (au_pn (au_bp s)) (f_5006 33 (au_cd 3 v.2 s6)))) by cases f_rd n 5018 (nI 1) (au_nx v.1) <;> rfl]
        exact this
      · rw [if_neg h27] at q
        rw [ex_n h27]
        obtain ⟨d, v1, v2⟩ := stmD (n := n) (p := au_pn (au_bp s)) (c := 3) (y := v.2) (by omega) (w1.ref (f := 3) (t := v.1.2 2) (by decide))
        refine Or.inl ⟨3, v.1.2 2, 1 + 1, d, ?_, by rw [au_it_s hac, au_it_f q], v2⟩
        rw [← v1]
        cases f_rd n 5018 (nI 1) (f_5005 3 (v.1.2 2) v.1) <;> rfl
theorem x10 {n : Nat} (h18 : C18 n) (h19 : C19 n) {a e L : Nat} {s : Sx} {bl : List Ae} (hL : Lv a e L s) (hn : 49 + 20 * (8 - L) ≤ n) (h26 : au_ko s = 26) :
    GoS (bOv (f_rd (n + 1) 5010 0 (au_cd 0 0 (au_bp s))) fun s4 => some (au_ep (au_pn (au_bp s)) s4)) a e L s bl := by
  have hae := hL.lt (by rw [h26]; decide)
  have co : Co s (au_cd 0 0 (au_bp s)) := Co_bp.tr Co_cd
  have hL1 := (hL.co co).sk (x := 37) hae (by decide)
  have hac : au_acc (s, 0, [], bl) = au_s0 s bl := ac0
  unfold au_s0 au_st at hac
  rw [if_neg (by rw [h26]; decide), if_neg (by rw [h26]; decide), if_pos h26] at hac
  unfold au_lv at hac
  rw [rd_10, cell_eq]
  by_cases hl : L < 8
  · have hl' := hL1.l8.2 hl
    rw [if_pos hl'] at hac
    rw [op_y hl']
    have hL2 := hL1.up hae hl
    rcases h19 (a + 1) e (L + 1) _ 2 [(48, au_pn (au_bp s), s.2 2, 0, 0, 0)] bl hL2 (by omega) (Or.inl rfl) with ⟨f, t, kk, d, g1, g2, g3⟩ | ⟨k1, t', a1, e1, e2, e3, e4, e5⟩
    · obtain ⟨d2, w1, w2⟩ := dd_18 n 1 (f_5006 27 (sV d 4 (d.2 4 - 1))) ((g3.dn).ex (by decide)) (by omega) (by omega) (by omega)
      refine Or.inl ⟨f, t, kk + 1, au_ep (au_pn (au_bp s)) (f_5006 33 (au_cd 4 0 d2)), ?_, by rw [au_it_s hac]; exact g2, ((w2.co Co_cd).ex (by decide)).co Co_ep⟩
      rw [bS_eq, g1, bOv_some]
      show bOv (bOv (f_rd n 5018 (nI 1) (f_5006 27 (sV d 4 (d.2 4 - 1)))) _) _ = _
      rw [w1]
      rfl
    · have e2' : au_it (k1 + 1) (s, 0, [], bl) = .inl (au_dn t', 6, [(49, au_pn (au_bp s), s.2 2, 0, 0, 0)], bl) := by
        rw [au_it_s hac, e2, au_en48]
      have hL3 := e3.dn
      have q := ac56 (s := au_dn t') (st := 6) (op := [(49, au_pn (au_bp s), s.2 2, 0, 0, 0)]) (bl := bl) (Or.inr rfl)
      have hR : (bOv (bS (au_up (au_sk 37 (au_cd 0 0 (au_bp s)))) fun s2 => bOv (f_rd n 5019 0 s2) fun s3 => bOv (f_rd n 5018 (nI 1) (f_5006 27 (au_dn s3))) fun s6 => some (f_5006 33 (au_cd 4 0 s6))) fun s4 => some (au_ep (au_pn (au_bp s)) s4)) = bOv (f_rd n 5018 (nI 1) (f_5006 27 (au_dn t'))) (fun s6 => some (au_ep (au_pn (au_bp s)) (f_5006 33 (au_cd 4 0 s6)))) := by
        rw [bS_eq, e1, bOv_some]
        cases f_rd n 5018 (nI 1) (f_5006 27 (au_dn t')) <;> rfl
      rw [hR]
      by_cases h27 : au_ko (au_dn t') = 27
      · rw [if_pos h27] at q
        rw [ex_y h27]
        have ha1 := hL3.lt (by rw [h27]; decide)
        obtain ⟨o1, o2, o3⟩ := opr43 (c := 4) (y := 0) (x := (49, au_pn (au_bp s), s.2 2, 0, 0, 0)) (bl := bl) (Or.inr (Or.inr (Or.inr ⟨rfl, rfl, rfl⟩)))
        have hk2 : au_it (k1 + 1 + 1) (s, 0, [], bl) = .inl (au_nx (au_dn t'), 2, [(49, au_pn (au_bp s), s.2 2, 0, 0, 0)], bl) := by
          rw [au_it_add e2', au_it_s q]
          rfl
        have h25 : (au_nx (au_dn t')).2 5 = s.2 5 := e5.trans (co.2 5 (by decide))
        have := stmE h18 (a := a) (s := s) (s1 := au_nx (au_dn t')) (bl := bl) (x := (49, au_pn (au_bp s), s.2 2, 0, 0, 0)) (c := 4) (y := 0) (hL3.nx ha1) (by omega) (by omega) h25 hk2 o1 o2 o3
        exact this
      · rw [if_neg h27] at q
        rw [ex_n h27]
        obtain ⟨d, v1, v2⟩ := stmD (n := n) (p := au_pn (au_bp s)) (c := 4) (y := 0) (by omega) (hL3.ref (f := 3) (t := (au_dn t').2 2) (by decide))
        exact Or.inl ⟨3, (au_dn t').2 2, k1 + 1 + 1, d, v1, by rw [au_it_add e2', au_it_f q], v2⟩
  · have hl' : ¬ (au_sk 37 (au_cd 0 0 (au_bp s))).2 4 < 8 := fun q => hl (hL1.l8.1 q)
    rw [if_neg hl'] at hac
    rw [op_n hl']
    obtain ⟨d, w1, w2⟩ := dd_19 (n := n - 1) (hL1.ref (f := 4) (t := (au_sk 37 (au_cd 0 0 (au_bp s))).2 2) (by decide))
    rw [show n - 1 + 1 = n by omega] at w1
    obtain ⟨d2, w3, w4⟩ := dd_18 n 1 (f_5006 27 (sV d 4 (d.2 4 - 1))) ((w2.dn).ex (by decide)) (by omega) (by omega) (by omega)
    refine Or.inl (RdF.one (s' := au_ep (au_pn (au_bp s)) (f_5006 33 (au_cd 4 0 d2))) ?_ hac (((w4.co Co_cd).ex (by decide)).co Co_ep))
    rw [bS_eq, w1, bOv_some]
    show bOv (bOv (f_rd n 5018 (nI 1) (f_5006 27 (sV d 4 (d.2 4 - 1)))) _) _ = _
    rw [w3]
    rfl
theorem x13 {n : Nat} (h18 : C18 n) {a e L : Nat} {s : Sx} {bl : List Ae} (hL : Lv a e L s) (hn : 49 + 20 * (8 - L) ≤ n) (h11 : au_ko s = 11) :
    GoS (bOv (f_rd (n + 1) 5013 0 (au_cd 0 0 (au_bp s))) fun s4 => some (au_ep (au_pn (au_bp s)) s4)) a e L s bl := by
  have hae := hL.lt (by rw [h11]; decide)
  have co : Co s (au_cd 0 0 (au_bp s)) := Co_bp.tr Co_cd
  have hL1 := hL.co co
  have hac : au_acc (s, 0, [], bl) = au_s0 s bl := ac0
  unfold au_s0 au_st at hac
  rw [h11, if_neg (by decide), if_neg (by decide), if_neg (by decide), if_neg (by decide), if_neg (by decide), if_neg (by decide), if_pos rfl] at hac
  rw [rd_13]
  unfold f_5013
  show GoS (bOv (if s.2 5 = 0 then _ else _) _) a e L s bl
  by_cases h5 : s.2 5 = 0
  · rw [if_pos h5] at hac ⊢
    exact Or.inl (RdF.one rfl hac ((hL1.ref (f := 3) (t := s.2 2) (by decide)).co Co_ep))
  · rw [if_neg h5] at hac ⊢
    obtain ⟨o1, o2, o3⟩ := opr43 (c := 16) (y := 0) (x := (45, au_pn (au_bp s), s.2 2, 0, 0, 0)) (bl := bl) (Or.inr (Or.inr (Or.inl ⟨rfl, rfl, rfl⟩)))
    have := stmE h18 (a := a) (s := s) (s1 := au_nx (au_cd 0 0 (au_bp s))) (bl := bl) (k0 := 1) (hL1.nx hae) (by omega) (by omega) rfl (by rw [au_it_s hac]; rfl) o1 o2 o3
    show GoS (bOv (bOv (f_rd n 5018 (nI 1) (au_nx (au_cd 0 0 (au_bp s)))) fun s6 => some (f_5006 33 (au_cd 16 0 s6))) fun s4 => some (au_ep (au_pn (au_bp s)) s4)) a e L s bl
    rw [show (bOv (bOv (f_rd n 5018 (nI 1) (au_nx (au_cd 0 0 (au_bp s)))) fun s6 => some (f_5006 33 (au_cd 16 0 s6))) fun s4 => some (au_ep (au_pn (au_bp s)) s4)) = bOv (f_rd n 5018 (nI 1) (au_nx (au_cd 0 0 (au_bp s)))) (fun s6 => some (au_ep (au_pn (au_bp s)) (f_5006 33 (au_cd 16 0 s6)))) by cases f_rd n 5018 (nI 1) (au_nx (au_cd 0 0 (au_bp s))) <;> rfl]
    exact this
theorem x08o {n : Nat} (h18 : C18 n) {a e L : Nat} {s : Sx} {bl : List Ae} (hL : Lv a e L s) (hn : 49 + 20 * (8 - L) ≤ n) (h8 : au_ko s = 8) :
    GoS (bOv (f_rd n 5018 (nI 1) (au_nx (au_cd 0 0 (au_bp s)))) fun s8 => some (au_ep (au_pn (au_bp s)) (f_5006 33 (au_cd 6 0 s8)))) a e L s bl := by
  have hae := hL.lt (by rw [h8]; decide)
  have co : Co s (au_cd 0 0 (au_bp s)) := Co_bp.tr Co_cd
  have hL1 := hL.co co
  have hac : au_acc (s, 0, [], bl) = au_s0 s bl := ac0
  unfold au_s0 au_st at hac
  rw [h8, if_neg (by decide), if_neg (by decide), if_neg (by decide), if_pos rfl] at hac
  obtain ⟨o1, o2, o3⟩ := opr43 (c := 6) (y := 0) (x := (44, au_pn (au_bp s), s.2 2, 0, 0, 0)) (bl := bl) (Or.inr (Or.inl ⟨rfl, rfl, rfl⟩))
  have hk2 : au_it 1 (s, 0, [], bl) = .inl (au_nx (au_cd 0 0 (au_bp s)), 2, [(44, au_pn (au_bp s), s.2 2, 0, 0, 0)], bl) := by
    rw [au_it_s hac]
    rfl
  have := stmE h18 (a := a) (s := s) (s1 := au_nx (au_cd 0 0 (au_bp s))) (bl := bl) (x := (44, au_pn (au_bp s), s.2 2, 0, 0, 0)) (c := 6) (y := 0) (hL1.nx hae) (by omega) (by omega) rfl hk2 o1 o2 o3
  exact this
