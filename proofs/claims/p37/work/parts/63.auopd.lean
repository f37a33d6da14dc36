/-! the reader and the automaton: the operand itself, marked operands, calls -/
theorem var_f {x : Nat} {s : Sx} (h : xpos (s.1 x) (xg (s.1 1) (s.2 2)) = -1 ∧ ¬ nI (s.1 x).length < 8) : f_5022 x s = (f_5005 5 (s.2 2) s, 0) := by
  unfold f_5022
  rw [if_pos h.1, if_neg h.2]
  rfl
theorem Lv.j67 {a e L x : Nat} {v : Int32} {s : Sx} (h : Lv a e L s) (hae : a < e) : Lv (a + 1) e L (f_5022_J67 x v s).1 ∧ (f_5022_J67 x v s).1.2 5 = s.2 5 :=
  ⟨((h.sk (x := 34) hae (by decide)).co (Co_sB (k := 1) (xs := xset (s.1 1) (s.2 2) v) (by decide))).nx hae, rfl⟩
theorem var_ok {a e L x : Nat} {s : Sx} (h : Lv a e L s) (hae : a < e) (hx : x ≠ 0) (hc : ¬ (xpos (s.1 x) (xg (s.1 1) (s.2 2)) = -1 ∧ ¬ nI (s.1 x).length < 8)) : Lv (a + 1) e L (f_5022 x s).1 ∧ (f_5022 x s).1.2 5 = s.2 5 := by
  unfold f_5022
  by_cases c1 : xpos (s.1 x) (xg (s.1 1) (s.2 2)) = -1
  · by_cases c2 : nI (s.1 x).length < 8
    · rw [if_pos c1, if_pos c2]
      exact (h.co (Co_sB hx)).j67 (x := x) hae
    · exact absurd ⟨c1, c2⟩ hc
  · rw [if_neg c1]
    exact h.j67 (x := x) hae
theorem names_ne (s : Sx) : f_5004 s ≠ 0 := by
  unfold f_5004
  split <;> decide
theorem sk_ko {a e L : Nat} {s : Sx} {x : Int32} (h : Lv a e L s) : au_ko (au_sk x s) = x := by
  show xg (xset (s.1 0) (s.2 2) x) (s.2 2) = x
  rw [h.2.1, xset_n (by have := h.2.2.2.1; have := h.2.2.2.2.1; omega), xg_n (by have := h.2.2.2.1; have := h.2.2.2.2.1; omega), gD_set_s (by have := h.2.2.2.1; rw [h.2.2.2.2.2.1]; omega)]
theorem dd_20 {n : Nat} {f t : Int32} {s : Sx} (hl : ¬ s.2 4 < 8) (h : Dd f t (f_5005 4 (s.2 2) s)) : ∃ s', f_rd (n + 2) 5020 0 s = some s' ∧ Dd f t s' := by
  rw [rd_20]
  unfold f_5020
  rw [op_n hl]
  obtain ⟨d, e1, e2⟩ := dd_19 (n := n) h
  show ∃ s', bOv (f_rd (n + 1) 5019 0 (f_5005 4 (s.2 2) s)) _ = some s' ∧ _
  rw [e1]
  exact ⟨_, rfl, (e2.dn (x := d.2 4 - 1)).co Co_cd⟩
theorem HdOK_1 {k x y z u v : Int32} {op : List Ae} (h0 : lvK k = 0) (h : k ≠ 40 ∧ k ≠ 48 ∧ k ≠ 50) : HdOK (nI 1) ((k, x, y, z, u, v) :: op) :=
  ⟨by show lvK k < nI 1; rw [h0]; decide +kernel, h⟩
theorem nlv {s : Sx} (h : lvK (au_ko s) < nI 1 ∨ lvK (au_ko s) = 7) : ¬ (0 < lvK (au_ko s) ∧ lvK (au_ko s) < 7) := by
  intro q
  rcases h with r | r
  · have := q.1
    rw [i_lt, nI_T (by omega)] at r
    rw [i_lt] at this
    have e0 : (0 : Int32).toInt = 0 := rfl
    omega
  · have := q.2
    rw [r, i_lt] at this
    omega
/-- what the automaton does behind an expression, at a token that is no operator -/
theorem opr_e {s'' s' : Sx} {ops op bl : List Ae} {x0 : Int32} {xr : Int32 × Int32 × Int32 × Int32 × Int32} (h3 : ∀ x, x ∈ ops → nI 1 ≤ lvK x.1) (h4 : (au_fl (nI 1) ops s'').2 = s') (he : lvK x0 = 0) (h8 : lvK (au_ko s') < nI 1 ∨ lvK (au_ko s') = 7) :
    au_acc (s'', 4, ops ++ (x0, xr) :: op, bl) =
      if au_ko s' = 29 ∧ x0 = 41 then .inl (au_en bl op (au_dn (au_nx s')))
      else if au_ko s' = 29 ∧ x0 = 42 then .inl (au_en bl op (au_clz xr.1 (xr.2.1 + 1) s'))
      else if au_ko s' = 32 ∧ x0 = 42 then .inl (au_nx s', 2, (42, xr.1, xr.2.1 + 1, xr.2.2) :: op, bl)
      else if au_ko s' = 33 ∧ x0 = 43 then .inl (au_ep xr.1 (au_nx (au_cd 3 xr.2.2.1 s')), 0, op, bl)
      else if au_ko s' = 33 ∧ x0 = 44 then .inl (au_ep xr.1 (au_nx (au_cd 6 0 s')), 0, op, bl)
      else if au_ko s' = 33 ∧ x0 = 45 then .inl (au_ep xr.1 (au_nx (au_cd 16 0 s')), 0, op, bl)
      else if au_ko s' = 33 ∧ x0 = 49 then .inl (au_ep xr.1 (au_nx (au_cd 4 0 s')), 0, op, bl)
      else if au_ko s' = 30 ∧ x0 = 46 then
        au_lv (au_cd 14 0 s') fun s2 => .inl (s2, 0, op, (5, xr.1, au_cn (au_cd 14 0 s'), 0, xr.2.1, s'.2 2) :: bl)
      else if au_ko s' = 30 ∧ x0 = 47 then
        au_lv (au_cd 14 0 s') fun s2 => .inl (s2, 0, op, (7, xr.1, au_cn (au_cd 14 0 s'), xr.2.2.1, xr.2.1, s'.2 2) :: bl)
      else .inr (3, s'.2 2) := by
  have co : Co s'' s' := h4 ▸ Co_fl
  have hf : au_fl 1 (ops ++ (x0, xr) :: op) s'' = ((x0, xr) :: op, s') := by
    rw [show (1 : Int32) = nI 1 from rfl, au_fl_app h3 (Int32.le_refl _), h4]
    have hn : ¬ nI 1 ≤ lvK x0 := by rw [he]; decide +kernel
    exact if_neg hn
  rw [ac4]
  unfold au_opr
  rw [← co.ko, ← co.2 2 (by decide), if_neg (nlv h8), hf]
theorem x20 {n : Nat} (h19 : C19 n) : C20 (n + 1) := by
  intro a e L s m tok op bl hL hm hm0 hl hn
  have hae := hL.lt (by rw [hm]; exact hm0)
  rw [rd_20]
  unfold f_5020
  rw [op_y (hL.l8.2 hl)]
  rcases h19 (a + 1) e (L + 1) (au_up s) 2 ((40, m, tok, 0, 0, 0) :: op) bl (hL.up hae hl) (by omega) (Or.inl rfl) with ⟨f, t, k, d, g1, g2, g3⟩ | ⟨k, s', a', g1, g2, g3, g4, g5⟩
  · refine Or.inl ⟨f, t, k, _, ?_, g2, (g3.dn (x := d.2 4 - 1)).co (Co_cd (c := 8) (x := f_5003 s))⟩
    show bOv (f_rd n 5019 0 (au_up s)) _ = _
    rw [g1]
    rfl
  · refine Or.inr ⟨k, au_cd 8 m (au_dn s'), a', ?_, ?_, (g3.dn).co Co_cd, by omega, ?_⟩
    · show bOv (f_rd n 5019 0 (au_up s)) _ = _
      rw [g1]
      show some (au_cd 8 (au_ko s) (au_dn s')) = _
      rw [hm]
    · rw [g2]
      have q : au_en bl ((40, m, tok, 0, 0, 0) :: op) s' = au_en bl op (au_cd 8 m (au_dn s')) := by
        conv => lhs; unfold au_en
        rw [if_pos rfl]
      rw [q]
    · exact g5
theorem dd_142x {rec : Nat → Int32 → Sx → Option Sx} {f t x y : Int32} {s : Sx} (h : Dd f t (f_5006 29 s)) : ∃ s', f_5021_J142 rec x y s = some s' ∧ Dd f t s' := by
  refine ⟨_, rfl, ?_⟩
  exact ((((h.dn (x := (f_5006 29 s).2 4 - 1)).co (Co_sB (k := 16) (by decide))).co Co_cd).co (Co_sB (k := 17) (by decide)))
theorem dd_142 {rec : Nat → Int32 → Sx → Option Sx} {f t x y : Int32} {s : Sx} (h : Dd f t s) : ∃ s', f_5021_J142 rec x y s = some s' ∧ Dd f t s' :=
  dd_142x (h.ex (by decide))
theorem dd_102 {rec : Nat → Int32 → Sx → Option Sx} {m : Nat} {f t x y z : Int32} {s : Sx} (h : Dd f t s) : ∃ s', f_5021_L102 rec (m + 1) x y z s = some s' ∧ Dd f t s' := by
  rw [f_5021_L102]
  split
  · exact dd_142 h
  · rw [h.ko, if_neg (by decide)]
    exact dd_142 h
theorem clz_142 {rec : Nat → Int32 → Sx → Option Sx} {x y : Int32} {s : Sx} (h : au_ko s = 29) : f_5021_J142 rec x y s = some (au_clz x y s) := by
  unfold f_5021_J142
  rw [ex_y h]
  rfl
theorem Co_clz {x y : Int32} {s : Sx} : Co (au_dn (au_nx s)) (au_clz x y s) :=
  ((Co_sB (k := 16) (by decide)).tr Co_cd).tr (Co_sB (k := 17) (by decide))
theorem x21_loop {n : Nat} (h18 : C18 n) {A : Au} {a e L : Nat} {s0 : Sx} {op bl : List Ae} {c t4 : Int32} {tt : Int32 × Int32} (hn : 49 + 20 * (8 - (L + 1)) ≤ n) :
    ∀ (m : Nat) (l3 k : Nat) (cnt : Int32) (s'' : Sx) (ops : List Ae) (s' : Sx) (a' : Nat), e - a' < m → l3 ≤ a' → au_it k A = .inl (s'', 4, ops ++ (42, c, cnt, t4, tt) :: op, bl) → (∀ x, x ∈ ops → nI 1 ≤ lvK x.1) → (au_fl (nI 1) ops s'').2 = s' → Lv a' e (L + 1) s' → a < a' → s'.2 5 = s0.2 5 → (lvK (au_ko s') < nI 1 ∨ lvK (au_ko s') = 7) →
      GoO (f_5021_L102 (f_rd n) m c (cnt + 1) (nI l3) s') A a e L s0 op bl := by
  intro m
  induction m with
  | zero => intro l3 k cnt s'' ops s' a' hm; omega
  | succ m ihm =>
    intro l3 k cnt s'' ops s' a' hm hl hk hops hfl hL ha h5 hlv
    have he := hL.2.2.2.2.1
    have hacc := opr_e (op := op) (bl := bl) (x0 := 42) (xr := (c, cnt, t4, tt)) hops hfl (by decide +kernel) hlv
    have fin : au_ko s' ≠ 32 → GoO (f_5021_J142 (f_rd n) c (cnt + 1) s') A a e L s0 op bl := by
      intro h32
      by_cases h29 : au_ko s' = 29
      · have hae := hL.lt (by rw [h29]; decide)
        refine Or.inr ⟨k + 1, au_clz c (cnt + 1) s', a' + 1, clz_142 h29, ?_, ((hL.nx hae).dn).co Co_clz, by omega, ?_⟩
        · rw [au_it_add hk, au_it_s (B := au_en bl op (au_clz c (cnt + 1) s'))]
          · rfl
          · rw [hacc, if_neg (fun q => absurd q.2 (by decide)), if_pos ⟨h29, rfl⟩]
        · rw [Co_clz.2 5 (by decide)]
          exact h5
      · left
        obtain ⟨d, e1, e2⟩ := dd_142x (rec := f_rd n) (x := c) (y := cnt + 1) (s := s') (by rw [ex_n h29]; exact hL.ref (f := 3) (t := s'.2 2) (by decide))
        refine ⟨3, s'.2 2, k + 1, d, e1, ?_, e2⟩
        · rw [au_it_add hk, au_it_f]
          rw [hacc]
          rw [if_neg (fun q => h29 q.1), if_neg (fun q => h29 q.1), if_neg (fun q => h32 q.1), if_neg (fun q => absurd q.2 (by decide)), if_neg (fun q => absurd q.2 (by decide)), if_neg (fun q => absurd q.2 (by decide)), if_neg (fun q => absurd q.2 (by decide)), if_neg (fun q => absurd q.2 (by decide)), if_neg (fun q => absurd q.2 (by decide))]
    rw [f_5021_L102]
    by_cases h32 : au_ko s' = 32
    · have hae := hL.lt (by rw [h32]; decide)
      have h300 : ¬ (300 : Int32) ≤ nI l3 := nI_ge (a := l3) (b := 300) (by omega) (by decide)
      rw [if_neg h300, show f_5003 s' = au_ko s' from rfl, if_pos h32]
      have hac : au_acc (s'', 4, ops ++ (42, c, cnt, t4, tt) :: op, bl) = .inl (au_nx s', 2, (42, c, cnt + 1, t4, tt) :: op, bl) := by
        rw [hacc, if_neg (fun q => absurd q.2 (by decide)), if_neg (fun q => absurd (h32.symm.trans q.1) (by decide)), if_pos ⟨h32, rfl⟩]
      show GoO (bOv (f_rd n 5018 (nI 1) (au_nx s')) _) A a e L s0 op bl
      rcases h18 1 (by omega) (by omega) (a' + 1) e (L + 1) (au_nx s') 2 ((42, c, cnt + 1, t4, tt) :: op) bl (hL.nx hae) (by omega) (Or.inl rfl) (HdOK_1 (by decide +kernel) (by decide)) with ⟨f, t, kk, d, g1, g2, g3⟩ | ⟨k1, t'', ops1, t', a1, e1, e2, e3, e4, e5, e6, e7, e8⟩
      · left
        rw [g1]
        have hm1 : m = (m - 1) + 1 := by omega
        obtain ⟨d2, w1, w2⟩ := dd_102 (rec := f_rd n) (m := m - 1) (x := c) (y := cnt + 1 + 1) (z := nI l3 + 1) g3
        refine ⟨f, t, k + (kk + 1), d2, ?_, ?_, w2⟩
        · rw [← hm1] at w1
          exact w1
        · rw [au_it_add hk, au_it_s hac]
          exact g2
      · rw [e1]
        show GoO (f_5021_L102 (f_rd n) m c (cnt + 1 + 1) (nI l3 + 1) t') A a e L s0 op bl
        rw [nI_1]
        refine ihm (l3 + 1) (k + (k1 + 1)) (cnt + 1) t'' ops1 t' a1 (by omega) (by omega) ?_ e3 e4 e5 (by omega) ?_ e8
        · rw [au_it_add hk, au_it_s hac, e2]
        · rw [e7]
          exact h5
    · split
      · exact fin h32
      · rw [show f_5003 s' = au_ko s' from rfl, if_neg h32]
        exact fin h32
theorem cl0 {a e L : Nat} {s : Sx} (h : Lv a e L s) (hae : a < e) : Lv (a + 1) e L (au_nx (au_sk 35 (au_ca 17 0 (au_ca 16 0 (au_ca 15 (s.2 2) s))))) :=
  ((((h.co (Co_sB (k := 15) (by decide))).co (Co_sB (k := 16) (by decide))).co (Co_sB (k := 17) (by decide))).sk (x := 35) hae (by decide)).nx hae
theorem nx_ko {a e L : Nat} {s : Sx} (h : Lv a e L s) (hae : a < e) (hn : xg (s.1 0) (s.2 2 + 1) ≠ 0) : a + 1 < e := by
  obtain ⟨h1, h2, h3, h4, h5, h6, h7, h8, h9, h10, h11⟩ := h
  rcases Nat.lt_or_ge (a + 1) e with q | q
  · exact q
  · exfalso
    apply hn
    have : a + 1 = e := by omega
    rw [h2, nI_1, xg_n (by omega), this]
    exact h9
theorem call_eq (rec : Nat → Int32 → Sx → Option Sx) (s : Sx) : f_5021 rec s = bS (f_5007 (au_sk 38 (au_nx (au_sk 35 (au_ca 17 0 (au_ca 16 0 (au_ca 15 (s.2 2) s))))))) (fun s18 => if au_ko s18 = 29 then f_5021_J142 rec (nI (s.1 15).length) 0 s18 else bOv (rec 5018 (nI 1) s18) fun s21 => f_5021_L102 rec 400 (nI (s.1 15).length) (0 + 1) 0 s21) := by
  unfold f_5021
  rw [bS_eq, bS_eq, bS_eq, bS_eq, bS_eq, bS_eq]
  rfl
theorem x21 {n : Nat} (h18 : C18 n) : C21 (n + 1) := by
  intro a e L s op bl A hL h4 hnx hn hA
  have hae := hL.lt (by rw [h4]; decide)
  have hae1 := nx_ko hL hae (by rw [hnx]; decide)
  have he := hL.2.2.2.2.1
  rw [rd_21, call_eq]
  have hL1 := cl0 hL hae
  have hL2 := hL1.sk (x := 38) hae1 (by decide)
  unfold au_call at hA
  cases hA
  have hac : au_acc (au_nx (au_sk 35 (au_ca 17 0 (au_ca 16 0 (au_ca 15 (s.2 2) s)))), 13, (42, nI (s.1 15).length, 0, s.2 2 + 1, 0, 0) :: op, bl) = _ := ac13
  by_cases hl : L < 8
  · have hl' := hL2.l8.2 hl
    unfold au_lv at hac
    rw [if_pos hl'] at hac
    have hL3 := hL2.up hae1 hl
    rw [op_y hl']
    generalize hg : au_up (au_sk 38 (au_nx (au_sk 35 (au_ca 17 0 (au_ca 16 0 (au_ca 15 (s.2 2) s)))))) = g at *
    have hg5 : g.2 5 = s.2 5 := by rw [← hg]; rfl
    rw [bS_eq]
    by_cases h29 : au_ko g = 29
    · rw [if_pos h29]
      have hg2 := hL3.lt (by rw [h29]; decide)
      refine Or.inr ⟨1 + 1, au_clz (nI (s.1 15).length) 0 g, a + 1 + 1 + 1, clz_142 h29, ?_, ((hL3.nx hg2).dn).co Co_clz, by omega, ?_⟩
      · rw [au_it_s hac, au_it_s (B := au_en bl op (au_clz (nI (s.1 15).length) 0 g))]
        · rfl
        · rw [ac2 (Or.inr rfl)]
          unfold au_opd
          rw [h29, if_neg (by decide), if_neg (by decide), if_neg (by decide), if_neg (by decide), if_neg (by decide), if_neg (by decide), if_pos (by decide)]
      · rw [Co_clz.2 5 (by decide)]
        exact hg5
    · rw [if_neg h29]
      rcases h18 1 (by omega) (by omega) (a + 1 + 1) e (L + 1) g 3 ((42, nI (s.1 15).length, 0, s.2 2 + 1, 0, 0) :: op) bl hL3 (by omega) (Or.inr ⟨rfl, h29⟩) (HdOK_1 (by decide +kernel) (by decide)) with ⟨f, t, kk, d, g1, g2, g3⟩ | ⟨k1, t'', ops1, t', a1, e1, e2, e3, e4, e5, e6, e7, e8⟩
      · rw [g1]
        obtain ⟨d2, w1, w2⟩ := dd_102 (rec := f_rd n) (m := 399) (x := nI (s.1 15).length) (y := 0 + 1) (z := 0) g3
        exact Or.inl ⟨f, t, kk + 1, d2, w1, by rw [au_it_s hac]; exact g2, w2⟩
      · rw [e1]
        exact x21_loop h18 (by omega) 400 0 (k1 + 1) 0 t'' ops1 t' a1 (by have := e5.2.2.2.1; omega) (by omega) (by rw [au_it_s hac]; exact e2) e3 e4 e5 (by omega) (e7.trans hg5) e8
  · have hl' : ¬ (au_sk 38 (au_nx (au_sk 35 (au_ca 17 0 (au_ca 16 0 (au_ca 15 (s.2 2) s)))))).2 4 < 8 := fun q => hl (hL2.l8.1 q)
    unfold au_lv at hac
    rw [if_neg hl'] at hac
    rw [op_n hl']
    generalize hg : f_5005 4 ((au_sk 38 (au_nx (au_sk 35 (au_ca 17 0 (au_ca 16 0 (au_ca 15 (s.2 2) s)))))).2 2) (au_sk 38 (au_nx (au_sk 35 (au_ca 17 0 (au_ca 16 0 (au_ca 15 (s.2 2) s)))))) = g
    have hD : Dd 4 ((au_sk 38 (au_nx (au_sk 35 (au_ca 17 0 (au_ca 16 0 (au_ca 15 (s.2 2) s)))))).2 2) g := by rw [← hg]; exact hL2.ref (by decide)
    have h29 : ¬ au_ko g = 29 := by rw [show au_ko g = f_5003 g from rfl, hD.ko]; decide
    obtain ⟨d, w1, w2⟩ := dd_18 n 1 g hD (by omega) (by omega) (by omega)
    obtain ⟨d2, w3, w4⟩ := dd_102 (rec := f_rd n) (m := 399) (x := nI (s.1 15).length) (y := 0 + 1) (z := 0) w2
    left
    refine RdF.one (s' := d2) ?_ hac w4
    rw [bS_eq, if_neg h29, w1]
    exact w3
theorem x19 {n : Nat} (h18 : C18 n) (h20 : C20 n) (h21 : C21 n) : C19 (n + 1) := by
  intro a e L s st op bl hL hn hst
  have hst' : st = 2 ∨ st = 3 := hst.elim Or.inl (fun q => Or.inr q.1)
  have he := hL.2.2.2.2.1
  rw [rd_19]
  unfold f_5019
  have hac : au_acc (s, st, op, bl) = au_opd s st op bl := ac2 hst'
  unfold au_opd at hac
  have hko : f_5003 s = au_ko s := rfl
  rw [hko]
  have mk : ∀ (m : Int32) (s1 : Sx), m ≠ 0 → Lv a e L s1 → s1.2 5 = s.2 5 → au_ko s1 = m → au_acc (s, st, op, bl) = (au_lv s1 fun s2 => .inl (s2, 2, (40, m, s.2 2, 0, 0, 0) :: op, bl)) → GoO (f_rd n 5020 0 s1) (s, st, op, bl) a e L s op bl := by
    intro m s1 hm hL1 h5 hk hq
    unfold au_lv at hq
    by_cases hl : L < 8
    · rw [if_pos (hL1.l8.2 hl)] at hq
      rcases h20 a e L s1 m (s.2 2) op bl hL1 hk hm hl (by omega) with hf | ⟨k, s', a', g1, g2, g3, g4, g5⟩
      · exact Or.inl (hf.pre (k := 1) (by rw [au_it_s hq]; rfl))
      · exact Or.inr ⟨k + 1, s', a', g1, by rw [au_it_s hq]; exact g2, g3, g4, g5.trans h5⟩
    · have hl' : ¬ s1.2 4 < 8 := fun q => hl (hL1.l8.1 q)
      rw [if_neg hl'] at hq
      obtain ⟨d, w1, w2⟩ := dd_20 (n := n - 2) hl' (hL1.ref (f := 4) (t := s1.2 2) (by decide))
      rw [show n - 2 + 2 = n by omega] at w1
      exact Or.inl (RdF.one w1 hq w2)
  by_cases c3 : au_ko s = 3
  · rw [if_pos c3]
    rw [if_pos c3] at hac
    have hae := hL.lt (by rw [c3]; decide)
    exact Or.inr ⟨1, au_nx (au_cd 1 (xg (s.1 1) (s.2 2)) s), a + 1, rfl, by rw [au_it_s hac]; rfl, (hL.co Co_cd).nx hae, by omega, rfl⟩
  rw [if_neg c3]
  rw [if_neg c3] at hac
  by_cases c4 : au_ko s = 4
  · have hae := hL.lt (by rw [c4]; decide)
    rw [if_pos c4]
    rw [c4, if_neg (by decide), if_neg (by decide), if_neg (by decide), if_neg (by decide), if_pos rfl] at hac
    by_cases cn : xg (s.1 0) (s.2 2 + 1) = 28
    · rw [if_pos cn] at hac ⊢
      rcases h21 a e L s op bl _ hL c4 cn (by omega) rfl with ⟨f, t, k, d, g1, g2, g3⟩ | ⟨k, s', a', g1, g2, g3, g4, g5⟩
      · rw [g1]
        exact Or.inl ⟨f, t, k + 1, d, rfl, by rw [au_it_s hac]; exact g2, g3⟩
      · rw [g1]
        exact Or.inr ⟨k + 1, s', a', rfl, by rw [au_it_s hac]; exact g2, g3, g4, g5⟩
    · rw [if_neg cn] at hac ⊢
      unfold au_var at hac
      by_cases cv : xpos (s.1 (f_5004 s)) (xg (s.1 1) (s.2 2)) = -1 ∧ ¬ nI (s.1 (f_5004 s)).length < 8
      · rw [if_pos cv] at hac
        rw [var_f cv]
        exact Or.inl (RdF.one rfl hac ((hL.ref (by decide)).co (Co_cd (c := 2) (x := 0))))
      · rw [if_neg cv] at hac
        obtain ⟨w1, w2⟩ := var_ok hL hae (names_ne s) cv
        exact Or.inr ⟨1, au_cd 2 (f_5022 (f_5004 s) s).2 (f_5022 (f_5004 s) s).1, a + 1, rfl, by rw [au_it_s hac]; rfl, w1.co Co_cd, by omega, w2⟩
  rw [if_neg c4]
  by_cases c9 : au_ko s = 9
  · rw [if_pos c9]
    rw [if_pos c9] at hac
    have hae := hL.lt (by rw [c9]; decide)
    exact Or.inr ⟨1, au_nx (au_cd 5 0 s), a + 1, rfl, by rw [au_it_s hac]; rfl, (hL.co Co_cd).nx hae, by omega, rfl⟩
  rw [if_neg c9]
  rw [if_neg c9] at hac
  by_cases c13 : au_ko s = 13
  · rw [if_pos c13]
    rw [c13, if_neg (by decide), if_pos rfl] at hac
    have hae := hL.lt (by rw [c13]; decide)
    have := mk 36 (au_sk 36 s) (by decide) (hL.sk hae (by decide)) rfl (sk_ko hL) hac
    show GoO (bOv (f_rd n 5020 0 (au_sk 36 s)) fun s15 => some s15) _ a e L s op bl
    rw [show (bOv (f_rd n 5020 0 (au_sk 36 s)) fun s15 => some s15) = f_rd n 5020 0 (au_sk 36 s) by cases f_rd n 5020 0 (au_sk 36 s) <;> rfl]
    exact this
  rw [if_neg c13]
  by_cases c25 : au_ko s = 25
  · rw [if_pos c25]
    rw [if_neg (fun q => absurd (c25.symm.trans q) (by decide)), if_neg c13, if_pos (Or.inl c25)] at hac
    rw [show (bOv (f_rd n 5020 0 s) fun s15 => some s15) = f_rd n 5020 0 s by cases f_rd n 5020 0 s <;> rfl]
    exact mk (au_ko s) s (by rw [c25]; decide) hL rfl rfl hac
  rw [if_neg c25]
  by_cases c26 : au_ko s = 26
  · rw [if_pos c26]
    rw [if_neg (fun q => absurd (c26.symm.trans q) (by decide)), if_neg c13, if_pos (Or.inr c26)] at hac
    rw [show (bOv (f_rd n 5020 0 s) fun s15 => some s15) = f_rd n 5020 0 s by cases f_rd n 5020 0 s <;> rfl]
    exact mk (au_ko s) s (by rw [c26]; decide) hL rfl rfl hac
  rw [if_neg c26]
  by_cases c28 : au_ko s = 28
  · rw [if_pos c28]
    rw [if_pos c28] at hac
    have hae := hL.lt (by rw [c28]; decide)
    unfold au_lv at hac
    by_cases hl : L < 8
    · have hl' := hL.l8.2 hl
      rw [if_pos hl'] at hac
      rw [op_y hl']
      show GoO (bOv (f_rd n 5018 (nI 1) (au_up s)) _) _ a e L s op bl
      rcases h18 1 (by omega) (by omega) (a + 1) e (L + 1) (au_up s) 2 ((41, s.2 2, 0, 0, 0, 0) :: op) bl (hL.up hae hl) (by omega) (Or.inl rfl) (HdOK_1 (by decide +kernel) (by decide)) with ⟨f, t, kk, d, g1, g2, g3⟩ | ⟨k1, t'', ops1, t', a1, e1, e2, e3, e4, e5, e6, e7, e8⟩
      · rw [g1]
        exact Or.inl ⟨f, t, kk + 1, _, rfl, by rw [au_it_s hac]; exact g2, (g3.ex (x := 29) (by decide)).dn⟩
      · rw [e1]
        have hacc := opr_e (op := op) (bl := bl) (x0 := 41) (xr := (s.2 2, 0, 0, 0, 0)) e3 e4 (by decide +kernel) e8
        by_cases h29 : au_ko t' = 29
        · have ha1 := e5.lt (by rw [h29]; decide)
          rw [if_pos ⟨h29, rfl⟩] at hacc
          refine Or.inr ⟨k1 + 1 + 1, au_dn (au_nx t'), a1 + 1, ?_, ?_, (e5.nx ha1).dn, by omega, e7⟩
          · show some (sV (f_5006 29 t') 4 _) = _
            rw [ex_y h29]
            rfl
          · rw [show k1 + 1 + 1 = (k1 + 1) + 1 from rfl, au_it_add (k := 1) (by rw [au_it_s hac]; exact e2), au_it_s hacc]
            rfl
        · rw [if_neg (fun q => h29 q.1), if_neg (fun q => h29 q.1), if_neg (fun q => absurd q.2 (by decide)), if_neg (fun q => absurd q.2 (by decide)), if_neg (fun q => absurd q.2 (by decide)), if_neg (fun q => absurd q.2 (by decide)), if_neg (fun q => absurd q.2 (by decide)), if_neg (fun q => absurd q.2 (by decide)), if_neg (fun q => absurd q.2 (by decide))] at hacc
          refine Or.inl ⟨3, t'.2 2, k1 + 1 + 1, sV (f_5006 29 t') 4 ((f_5006 29 t').2 4 - 1), rfl, ?_, ?_⟩
          · rw [show k1 + 1 + 1 = (k1 + 1) + 1 from rfl, au_it_add (k := 1) (by rw [au_it_s hac]; exact e2), au_it_f hacc]
          · rw [ex_n h29]
            exact (e5.ref (f := 3) (t := t'.2 2) (by decide)).dn
    · have hl' : ¬ s.2 4 < 8 := fun q => hl (hL.l8.1 q)
      rw [if_neg hl'] at hac
      rw [op_n hl']
      have hD := hL.ref (f := 4) (t := s.2 2) (by decide)
      obtain ⟨d, w1, w2⟩ := dd_18 n 1 _ hD (by omega) (by omega) (by omega)
      refine Or.inl (RdF.one (s' := sV (f_5006 29 d) 4 ((f_5006 29 d).2 4 - 1)) ?_ hac ((w2.ex (x := 29) (by decide)).dn))
      show bOv (f_rd n 5018 (nI 1) _) _ = _
      rw [w1]
      rfl
  rw [if_neg c28]
  rw [if_neg c28, if_neg c13, if_neg (fun q => q.elim c25 c26), if_neg c4, if_neg (fun q => hst.elim (fun r => absurd (r.symm.trans q.2) (by decide)) (fun r => r.2 q.1))] at hac
  exact Or.inl (RdF.one rfl hac (hL.ref (by decide)))
theorem xAll (n : Nat) : C18 n ∧ C19 n ∧ C20 n ∧ C21 n := by
  induction n with
  | zero =>
    refine ⟨?_, ?_, ?_, ?_⟩
    · intro j h1 h7 a e L s st op bl hL hn; omega
    · intro a e L s st op bl hL hn; omega
    · intro a e L s m tok op bl hL hk hm hl hn; omega
    · intro a e L s op bl A hL hk hx hn; omega
  | succ n ih => exact ⟨x18 ih.1 ih.2.1, x19 ih.1 ih.2.2.1 ih.2.2.2, x20 ih.2.1, x21 ih.1⟩
