/-! the law: all marks, test by test -/
section ISN
variable {T T' : Tx} {m m0 m' : Mx} {tx : List Int32} {e0 n0 td i j k p e kk : Nat} {t : Nat → Nat} {A : Nat → List Int32} {v w : Int32} {M : Nat → Int32} {es : List Nat} {ts : Nat → List Nat} {as : List Nat} {ps : Nat → Nat} {txs : Nat → List Int32} {ss : Nat → Sx} {pd : Nat} {own : Nat → Nat}
/-- what passes has ended with DONE -/
theorem pas_0 (h : SInv 0 T m tx es ts as ps txs ss pd own) (hi : i < as.length) (h47 : m 47 i = nI j) (hj : j < 4) (hk : k < (ts j).length) (hp : m 51 (8 * i + k) = 1) : m 50 (8 * i + k) = 0 := by
  have h30 := h.2.2.2.2.1.2.1
  obtain ⟨j', j1, j2, _⟩ := h.an hi
  obtain ⟨q1, q2, q3, q4⟩ := anE h hi h47 hj
  obtain ⟨_, e2⟩ := h.kp hi q1 h47
  obtain ⟨O, o1, o2⟩ := e2 k hk
  unfold PasIs at o2
  by_cases c : m 50 (8 * i + k) = 0
  · exact c
  · rw [if_neg (fun z => c z.1), hp] at o2
    exact absurd o2 (by decide)
theorem im_183 (h : SInv 0 T m tx es ts as ps txs ss pd own) (hB : BkI m A e0 n0 td t) (hn : n0 = as.length) (he : e < e0) (hk : kk < t e) (K : Nat → Nat → Nat → Nat → Nat → Int32 → Int32 → Int32 → Int32 → Int32 → Nat → Nat → Lx → Option (Lx × Int32)) (l5 l6 l8 : Int32) : ∀ (q n l bc bs : Nat) (a : Int32), l + q = as.length → q < n → pasF m e kk q l a = pasF m e kk as.length 0 0 → 6 * q + 2 ≤ bc → 36 * q + 12 ≤ bs →
    ∃ bc' bs', bc ≤ bc' + (6 * q + 2) ∧ bs ≤ bs' + (36 * q + 12) ∧ l_13038_L183 K n 0 74 77 78 79 l5 l6 (nI e) l8 (nI kk) a (nI l) bc bs (T, A) = K 0 74 77 78 79 l5 l6 (nI e) l8 (nI kk + 1) bc' bs' (T, A) := by
  have hB' := hB
  obtain ⟨⟨b1, b1'⟩, ⟨b2, b2'⟩, b3, ⟨l74, l75, l76, l77, l78, l79⟩, c1, cE, c0, cQ, cA⟩ := hB
  obtain ⟨F, D, f1, f2, f3, f4, f5, f6, f7, f8, f9⟩ := cE e he
  have hes : e0 = es.length := (nI_eq (by omega) (by have := h.2.2.2.1.2.1; omega)).1 (b1.symm.trans h.2.2.2.1.1)
  have x1 : xg (A 79) 1 = nI as.length := by
    show xg (A 79) (nI 1) = _
    rw [xg_n (by omega), c1.2.1, hn]
  have v1 : vi 1 (A 79).length := by rw [l79]; exact vi_n (i := 1) (by omega) (by omega)
  have hE := h.2.2.2.1.2.2.2 e (by omega)
  have ht : (ts e).length = t e := by
    have q := hE.2.2.2.2.2.2.2.2.2.2.2.2.1
    rw [f7] at q
    exact ((nI_eq (by omega) (by have := hE.2.2.2.2.2.2.1; omega)).1 q).symm
  intro q
  induction q with
  | zero =>
    intro n l bc bs a hl hn1 hinv hc hs
    obtain ⟨n, rfl⟩ : ∃ z, n = z + 1 := ⟨n - 1, by omega⟩
    have hb1 : 2 ≤ bc ∧ 12 ≤ bs := by omega
    refine ⟨bc - 2, bs - 12, by omega, by omega, ?_⟩
    rw [l_13038_L183]
    show gd (vi 1 (A 79).length) (if xg (A 79) 1 ≤ nI l then gd (tK T 0 = 12) (gd _ (bP (h_13021 0 (nI e) (nI kk) T) _)) else _) = _
    rw [gd_e v1, x1, if_pos ((nI_gle (by omega) (by omega)).2 (by omega)), gd_e h.1.1, gd_e hb1, a_passed h (by omega) (by omega), bP_some, if_pos (show pasF m e kk as.length 0 0 = a from hinv.symm)]
  | succ q ih =>
    intro n l bc bs a hl hn1 hinv hc hs
    obtain ⟨n, rfl⟩ : ∃ z, n = z + 1 := ⟨n - 1, by omega⟩
    have hl' : l < as.length := by omega
    obtain ⟨P, J, D', G, g1, g2, g3, g4, g5, g6, g7, g8, g9⟩ := cA l (by omega)
    obtain ⟨a1, a2, _, _⟩ := a_val (G := G) g2 (by omega : J < 4) g6 g8
    have xl : xg (A 78) (nI l) = nI (P + 8 * J + 32 * D' + 65536 * G) := by rw [xg_n (by omega), g9]
    have vl : vi (nI l) (A 78).length := by rw [l78]; exact vi_n (by omega) (by omega)
    have hb1 : 2 ≤ bc ∧ 12 ≤ bs := by omega
    have hb2 : 2 ≤ bc - 2 ∧ 12 ≤ bs - 12 := by omega
    have hb3 : 2 ≤ bc - 2 - 2 ∧ 12 ≤ bs - 12 - 12 := by omega
    rw [pasF, g3] at hinv
    have top : l_13038_L183 K (n + 1) 0 74 77 78 79 l5 l6 (nI e) l8 (nI kk) a (nI l) bc bs (T, A) = if nI J = nI e then l_13038_J211 K (l_13038_L183 K n) 0 74 77 78 79 l5 l6 (nI e) l8 (nI kk) a (nI l) 1 bc bs (T, A) else l_13038_J211 K (l_13038_L183 K n) 0 74 77 78 79 l5 l6 (nI e) l8 (nI kk) a (nI l) 0 bc bs (T, A) := by
      rw [l_13038_L183]
      show gd (vi 1 (A 79).length) (if xg (A 79) 1 ≤ nI l then _ else gd (vi (nI l) (A 78).length) (gd _ (gd _ (if xg (A 78) (nI l) / 8 % 4 = nI e then _ else _)))) = _
      rw [gd_e v1, x1, if_neg (fun z => by have := (nI_gle (by omega) (by omega)).1 z; omega), gd_e vl, gd_e (by decide), gd_e (by decide), xl, a2]
    rw [top]
    by_cases d : nI J = nI e
    · have eJ : J = e := (nI_eq (by omega) (by omega)).1 d
      subst eJ
      rw [if_pos rfl] at hinv
      rw [if_pos d]
      obtain ⟨p1, p2⟩ := psE (i := l) (k := kk) h hl' g3 (by omega) (by rw [f7, i_lt, nI_T (by omega), nI_T (by omega)]; omega) (by omega)
      unfold l_13038_J211 l_13038_J236 l_13038_J237
      rw [if_neg one_0, gd_e (show tK (T, A).1 0 = 12 from h.1.1), gd_e hb1, show h_13015 0 (nI l) (nI kk) (T, A).1 = some (m 51 (8 * l + kk)) from p1, bP_some]
      rcases p2 with y | y
      · rw [y, Int32.add_zero] at hinv
        obtain ⟨bc', bs', r1, r2, r3⟩ := ih n (l + 1) (bc - 2 - 2) (bs - 12 - 12) a (by omega) (by omega) hinv (by omega) (by omega)
        refine ⟨bc', bs', by omega, by omega, ?_⟩
        rw [y, if_neg (by decide), if_neg one_0, gd_e (show tK (T, A).1 0 = 12 from h.1.1), gd_e hb2, bP_some, if_neg (by decide), Int32.add_zero, nI_p1 (by omega)]
        exact r3
      · rw [y] at hinv
        obtain ⟨bc', bs', r1, r2, r3⟩ := ih n (l + 1) (bc - 2 - 2 - 2) (bs - 12 - 12 - 12) (a + 1) (by omega) (by omega) hinv (by omega) (by omega)
        refine ⟨bc', bs', by omega, by omega, ?_⟩
        rw [y, if_pos rfl, if_neg one_0, gd_e (show tK (T, A).1 0 = 12 from h.1.1), gd_e hb2, bP_some, if_pos rfl, gd_e (show tK (T, A).1 0 = 12 from h.1.1), gd_e hb3, show h_13016 0 (nI l) (nI kk) (T, A).1 = some (m 50 (8 * l + kk)) from a_end h hl' g3 (by omega) (by omega), bP_some, if_pos (pas_0 h hl' g3 (by omega) (by omega) y), nI_p1 (by omega)]
        exact r3
    · rw [if_neg d] at hinv
      rw [if_neg d]
      obtain ⟨bc', bs', r1, r2, r3⟩ := ih n (l + 1) bc bs a (by omega) (by omega) hinv (by omega) (by omega)
      refine ⟨bc', bs', by omega, by omega, ?_⟩
      unfold l_13038_J211 l_13038_J236 l_13038_J237
      rw [if_pos rfl, if_pos rfl, Int32.add_zero, nI_p1 (by omega)]
      exact r3
theorem im_166 (h : SInv 0 T m tx es ts as ps txs ss pd own) (hB : BkI m A e0 n0 td t) (hn : n0 = as.length) (he : e < e0) (hp : p < 6) (hM : ∀ l, l < as.length → f_12098 (nI l) m = some (M l)) (l5 : Int32) : ∀ (q n kk bc bs : Nat), kk + q = t e → q < n → 182 * q + 7 ≤ bc → 1092 * q + 42 ≤ bs →
    l_13038_L166 n 0 74 77 78 79 l5 (nI p) (nI e) (bstF m M (nI p) (nI e) as.length 0 (-1)) (nI kk) bc bs (T, A) = some ((T, A), 1) := by
  have hB' := hB
  obtain ⟨⟨b1, b1'⟩, ⟨b2, b2'⟩, ⟨b3, b3'⟩, ⟨l74, l75, l76, l77, l78, l79⟩, c1, cE, c0, cQ, cA⟩ := hB
  obtain ⟨F, D, f1, f2, f3, f4, f5, f6, f7, f8, f9⟩ := cE e he
  have hes : e0 = es.length := (nI_eq (by omega) (by have := h.2.2.2.1.2.1; omega)).1 (b1.symm.trans h.2.2.2.1.1)
  have hE := h.2.2.2.1.2.2.2 e (by omega)
  have ht : (ts e).length = t e := by
    have q := hE.2.2.2.2.2.2.2.2.2.2.2.2.1
    rw [f7] at q
    exact ((nI_eq (by omega) (by have := hE.2.2.2.2.2.2.1; omega)).1 q).symm
  have x4 : xg (A 77) (4 + nI e) = nI (t e) := by
    rw [show (4 : Int32) + nI e = nI (4 + e) from nI_pl (a := 4) (by omega) (by omega), xg_n (by omega), f9]
  have v4 : vi (4 + nI e) (A 77).length := by
    rw [show (4 : Int32) + nI e = nI (4 + e) from nI_pl (a := 4) (by omega) (by omega), l77]
    exact vi_n (by omega) (by omega)
  have x1 : xg (A 79) 1 = nI as.length := by
    show xg (A 79) (nI 1) = _
    rw [xg_n (by omega), c1.2.1, hn]
  have x2 : xg (A 79) 2 = nI td := by
    show xg (A 79) (nI 2) = _
    rw [xg_n (by omega), c1.2.2]
  have v1 : vi 1 (A 79).length := by rw [l79]; exact vi_n (i := 1) (by omega) (by omega)
  have v2 : vi 2 (A 79).length := by rw [l79]; exact vi_n (i := 2) (by omega) (by omega)
  have n30 : as.length ≤ 30 := h.2.2.2.2.1.2.1
  intro q
  induction q with
  | zero =>
    intro n kk bc bs hl hn1 hc hs
    obtain ⟨n, rfl⟩ : ∃ z, n = z + 1 := ⟨n - 1, by omega⟩
    have h1 : 2 ≤ bc ∧ 12 ≤ bs := by omega
    have h2 : 1 ≤ bc - 2 ∧ 6 ≤ bs - 12 := by omega
    have h3 : 2 ≤ bc - 2 - 1 ∧ 12 ≤ bs - 12 - 6 := by omega
    have h4 : 2 ≤ bc - 2 - 1 - 2 ∧ 12 ≤ bs - 12 - 6 - 12 := by omega
    rw [l_13038_L166]
    show gd (vi (4 + nI e) (A 77).length) (if xg (A 77) (4 + nI e) ≤ nI kk then gd (tK T 0 = 12) (gd _ (bP (h_13020 0 (nI p) (nI e) T) _)) else _) = _
    rw [gd_e v4, x4, if_pos ((nI_gle (by omega) (by omega)).2 (by omega)), gd_e h.1.1, gd_e h1, a_best h hM (by rw [nI_T (by omega)]; omega) (by rw [nI_T (by omega)]; omega), bP_some, if_pos rfl]
    show gd (tK T 0 = 12) (bP (h_11021 0 T) fun r16 => gd (vi 1 (A 79).length) (if r16 = xg (A 79) 1 then gd (tK T 0 = 12) (bP (h_11019 0 T) fun r18 => gd (vi 2 (A 79).length) (if r18 = xg (A 79) 2 then _ else _)) else _)) = _
    rw [gd_e h.1.1, a_answers h, bP_some, gd_e v1, x1, if_pos rfl, gd_e h.1.1, a_today h, bP_some, gd_e v2, x2, if_pos b3]
    show gd (vi 1 (A 79).length) (gd (tK T 0 = 12) (gd (1 ≤ bc - 2 ∧ 6 ≤ bs - 12) (bP (h_13018 0 (nI as.length) T) _))) = _
    rw [gd_e v1, gd_e h.1.1, gd_e h2, a_markF h (by rw [nI_T (by omega)]; omega), bP_some, if_pos rfl]
    show gd (vi (4 + nI e) (A 77).length) (gd (tK T 0 = 12) (gd (2 ≤ bc - 2 - 1 ∧ 12 ≤ bs - 12 - 6) (bP (h_13021 0 (nI e) (nI (t e)) T) _))) = _
    rw [gd_e v4, gd_e h.1.1, gd_e h3, a_passedF h (by omega) (by rw [nI_T (by omega)]; omega), bP_some, if_pos rfl]
    show gd (tK T 0 = 12) (gd (2 ≤ bc - 2 - 1 - 2 ∧ 12 ≤ bs - 12 - 6 - 12) (bP (h_13020 0 6 0 T) _)) = _
    rw [gd_e h.1.1, gd_e h4, a_bestF h, bP_some, if_pos rfl]
  | succ q ih =>
    intro n kk bc bs hl hn1 hc hs
    obtain ⟨n, rfl⟩ : ∃ z, n = z + 1 := ⟨n - 1, by omega⟩
    obtain ⟨bc', bs', r1, r2, r3⟩ := im_183 (kk := kk) h hB' hn he (by omega) (l_13038_L166 n) l5 (nI p) (bstF m M (nI p) (nI e) as.length 0 (-1)) as.length 40 0 bc bs 0 (by omega) (by omega) rfl (by omega) (by omega)
    rw [l_13038_L166]
    show gd (vi (4 + nI e) (A 77).length) (if xg (A 77) (4 + nI e) ≤ nI kk then _ else l_13038_L183 (l_13038_L166 n) 40 0 74 77 78 79 l5 (nI p) (nI e) (bstF m M (nI p) (nI e) as.length 0 (-1)) (nI kk) 0 (nI 0) bc bs (T, A)) = _
    rw [gd_e v4, x4, if_neg (fun z => by have := (nI_gle (by omega) (by omega)).1 z; omega), r3, nI_p1 (by omega)]
    exact ih n (kk + 1) bc' bs' (by omega) (by omega) (by omega) (by omega)
/-- all marks are as the books say -/
theorem l_ism (h : SInv 0 T m tx es ts as ps txs ss pd own) (hB : BkI m A e0 n0 td t) (hn : n0 = as.length) (he0 : 0 < e0) (v : Int32) : ∃ T', l_13038 0 74 77 78 79 v (T, A) = some ((T', A), 1) ∧ SInv 0 T' m tx es ts as ps txs ss pd own ∧ tZ T' = tZ T := by
  have hB' := hB
  obtain ⟨⟨b1, b1'⟩, ⟨b2, b2'⟩, ⟨b3, b3'⟩, ⟨l74, l75, l76, l77, l78, l79⟩, c1, cE, c0, cQ, cA⟩ := hB
  obtain ⟨M, hM⟩ : ∃ M : Nat → Int32, ∀ l, l < as.length → f_12098 (nI l) m = some (M l) := ch_n (P := fun l r => f_12098 (nI l) m = some r) (fun l hl => by
    obtain ⟨M, R, m1, _⟩ := mkOf h hB' (by omega : l < n0)
    exact ⟨M, m1⟩)
  obtain ⟨p, hp, ep⟩ := low_n v (n := 6) (by decide) (by decide) T
  obtain ⟨e, he, ee⟩ := low_n (v >>> (3 &&& 31)) (n := e0) he0 (by omega) T
  have x0 : xg (A 79) 0 = nI e0 := by
    show xg (A 79) (nI 0) = _
    rw [xg_n (by omega), c1.1]
  have v0 : vi 0 (A 79).length := by rw [l79]; exact vi_n (i := 0) (by omega) (by omega)
  have n30 : as.length ≤ 30 := h.2.2.2.2.1.2.1
  have ht8 : t e ≤ 8 := by
    obtain ⟨F, D, f1, f2, f3, f4, f5, f6, f7, f8, f9⟩ := cE e he
    exact f8
  obtain ⟨T', bc', bs', r1, r2, r3, r4, r5⟩ := im_28 (e := e) hB' hn hp (by omega) v hM as.length 40 0 3000 18000 (-1) T h (by omega) (by omega) (by omega) (by omega)
  have k1 := im_166 r1 hB' hn he hp hM v (t e) 40 0 bc' bs' (by omega) (by omega) (by omega) (by omega)
  refine ⟨T', ?_, r1, r2⟩
  unfold l_13038
  show bP (h_13001 v (nI 6) T) _ = _
  rw [ep, bP_some]
  show gd (vi 0 (A 79).length) (bP (h_13001 (v >>> (3 &&& 31)) (xg (A 79) 0) T) _) = _
  rw [gd_e v0, x0, ee, bP_some]
  exact r5.trans k1
end ISN
