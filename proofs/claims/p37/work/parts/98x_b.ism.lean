/-! the law: all marks, answer by answer -/
section ISM
variable {T T' : Tx} {m m0 m' : Mx} {tx : List Int32} {e0 n0 td i j k p e : Nat} {t : Nat → Nat} {A : Nat → List Int32} {v w : Int32} {M : Nat → Int32} {es : List Nat} {ts : Nat → List Nat} {as : List Nat} {ps : Nat → Nat} {txs : Nat → List Int32} {ss : Nat → Sx} {pd : Nat} {own : Nat → Nat}
theorem a_mkAnew {M : Int32} (h : SInv 0 T m tx es ts as ps txs ss pd own) (hi : i < as.length) (hM : f_12098 (nI i) m = some M) : ∃ T', h_13019 0 (nI i) T = some (T', M) ∧ SInv 0 T' m tx es ts as ps txs ss pd own ∧ tZ T' = tZ T := by
  have h30 := h.2.2.2.2.1.2.1
  have h0 := h.row (y := 0 + 72) (l := []) (Or.inr rfl)
  obtain ⟨j, j1, j2, j3, a1, a2, a3, a4, _⟩ := h0.an (i := i) hi
  have a1' : tK T (gNl as i) = 2 := a1
  have ht8 := a3.2.2.2.2.2.2.1
  obtain ⟨T', M', z1, z2, z3, z4⟩ := mn_L (v := nI i) hi j1 a4 (ts j).length 100 0 8 48 _ h0 (by omega) (by omega) (by omega) (by omega) (by rw [tB_s]; rfl) (fun k hk => absurd hk (by omega))
  rw [hM] at z2
  cases z2
  have hh : h_11026 0 (nI i) T = some (T', .inr M) := by
    unfold h_11026
    rw [gd_e h.1.1, g39n h hi, bXp_some, gd_e a1', show tW T (gNl as i) 1 = _ from a2, bP_some, gd_e h.1.1, h.1.2.2.2.2.2.2.2.2.2.2.1.1, bP_some, gd_e h.1.2.2.2.2.2.2.2.2.2.2.1.2.1, bS_eq]
    exact z1
  refine ⟨T', ?_, z3, z4⟩
  unfold h_13019
  rw [hh]
  rfl
theorem im_28 (hB : BkI m A e0 n0 td t) (hn : n0 = as.length) (hp : p < 6) (he : e < 4) (l5 : Int32) (hM : ∀ l, l < as.length → f_12098 (nI l) m = some (M l)) : ∀ (q n l bc bs : Nat) (b : Int32) (T : Tx), SInv 0 T m tx es ts as ps txs ss pd own → l + q = as.length → q < n → 47 * q ≤ bc → 282 * q ≤ bs →
    ∃ T' bc' bs', SInv 0 T' m tx es ts as ps txs ss pd own ∧ tZ T' = tZ T ∧ bc ≤ bc' + 47 * q ∧ bs ≤ bs' + 282 * q ∧ l_13038_L28 n 0 74 77 78 79 l5 (nI p) (nI e) b (nI l) bc bs (T, A) = l_13038_L166 40 0 74 77 78 79 l5 (nI p) (nI e) (bstF m M (nI p) (nI e) q l b) 0 bc' bs' (T', A) := by
  have hB' := hB
  obtain ⟨b1, ⟨b2, b2'⟩, b3, ⟨l74, l75, l76, l77, l78, l79⟩, c1, cE, c0, cQ, cA⟩ := hB
  have x1 : xg (A 79) 1 = nI as.length := by
    show xg (A 79) (nI 1) = _
    rw [xg_n (by omega), c1.2.1, hn]
  have v1 : vi 1 (A 79).length := by rw [l79]; exact vi_n (i := 1) (by omega) (by omega)
  intro q
  induction q with
  | zero =>
    intro n l bc bs b T h hl hn1 hc hs
    obtain ⟨n, rfl⟩ : ∃ z, n = z + 1 := ⟨n - 1, by omega⟩
    refine ⟨T, bc, bs, h, rfl, by omega, by omega, ?_⟩
    rw [l_13038_L28]
    show gd (vi 1 (A 79).length) (if xg (A 79) 1 ≤ nI l then _ else _) = _
    rw [gd_e v1, x1, if_pos ((nI_gle (by omega) (by omega)).2 (by omega))]
    rfl
  | succ q ih =>
    intro n l bc bs b T h hl hn1 hc hs
    obtain ⟨n, rfl⟩ : ∃ z, n = z + 1 := ⟨n - 1, by omega⟩
    have hl' : l < as.length := by omega
    obtain ⟨P, J, D, G, g1, g2, g3, g4, g5, g6, g7, g8, g9⟩ := cA l (by omega)
    obtain ⟨a1, a2, _, _⟩ := a_val (G := G) g2 (by omega : J < 4) g6 g8
    have xl : xg (A 78) (nI l) = nI (P + 8 * J + 32 * D + 65536 * G) := by rw [xg_n (by omega), g9]
    have vl : vi (nI l) (A 78).length := by rw [l78]; exact vi_n (by omega) (by omega)
    obtain ⟨M', R, m1, m2, m3⟩ := mkOf h hB' (by omega : l < n0)
    have eM : M' = M l := by
      have := m1.symm.trans (hM l hl')
      injection this
    subst eM
    have q1 : 47 + 47 * q ≤ bc := by omega
    have q2 : 282 + 282 * q ≤ bs := by omega
    -- the best so far
    have J115 : ∀ (T : Tx) (bc bs : Nat), l_13038_J115 (l_13038_L28 n) 0 74 77 78 79 l5 (nI p) (nI e) b (nI l) (M l) 1 bc bs (T, A) = l_13038_L28 n 0 74 77 78 79 l5 (nI p) (nI e) (if m 46 l = nI p ∧ m 47 l = nI e then (if b < M l then M l else b) else b) (nI (l + 1)) bc bs (T, A) := fun T bc bs => by
      unfold l_13038_J115
      show gd (vi (nI l) (A 78).length) (gd _ (if xg (A 78) (nI l) % 8 = nI p then gd (vi (nI l) (A 78).length) (gd _ (gd _ (if xg (A 78) (nI l) / 8 % 4 = nI e then _ else _))) else _)) = _
      rw [gd_e vl, gd_e (by decide), xl, a1, a2, g1, g3, nI_p1 (by omega)]
      by_cases d1 : nI P = nI p
      · rw [if_pos d1, gd_e vl, gd_e (by decide), gd_e (by decide)]
        by_cases d2 : nI J = nI e
        · rw [if_pos d2, if_pos (show nI P = nI p ∧ nI J = nI e from ⟨d1, d2⟩)]
          by_cases d3 : M l ≤ b
          · rw [if_pos d3, if_neg (by rw [i_lt]; rw [i_le] at d3; omega)]
          · rw [if_neg d3, if_pos (by rw [i_lt]; rw [i_le] at d3; omega)]
        · rw [if_neg d2, if_neg (show ¬ (nI P = nI p ∧ nI J = nI e) from fun z => d2 z.2)]
      · rw [if_neg d1, if_neg (show ¬ (nI P = nI p ∧ nI J = nI e) from fun z => d1 z.1)]
    have h1 : 18 ≤ bc ∧ 108 ≤ bs := by omega
    have h2 : 1 ≤ bc - 18 ∧ 6 ≤ bs - 108 := by omega
    have h3 : 1 ≤ bc - 18 - 1 ∧ 6 ≤ bs - 108 - 6 := by omega
    have h4 : 18 ≤ bc - 18 - 1 - 1 ∧ 108 ≤ bs - 108 - 6 - 6 := by omega
    have h5 : 9 ≤ bc - 18 - 1 - 1 - 18 ∧ 54 ≤ bs - 108 - 6 - 6 - 108 := by omega
    have go : ∃ T1 c1 s1, SInv 0 T1 m tx es ts as ps txs ss pd own ∧ tZ T1 = tZ T ∧ bc ≤ c1 + 47 ∧ bs ≤ s1 + 282 ∧ l_13038_J84 (l_13038_L28 n) 0 74 77 78 79 l5 (nI p) (nI e) b (nI l) (M l) 1 (bc - 18 - 1 - 1 - 18) (bs - 108 - 6 - 6 - 108) (T, A) = l_13038_L28 n 0 74 77 78 79 l5 (nI p) (nI e) (if m 46 l = nI p ∧ m 47 l = nI e then (if b < M l then M l else b) else b) (nI (l + 1)) c1 s1 (T1, A) := by
      unfold l_13038_J84
      rw [if_neg one_0, gd_e (by decide)]
      by_cases d : (nI l + l5) % 7 = 0
      · obtain ⟨T1, e1, k1, k2⟩ := a_mkAnew h hl' (hM l hl')
        refine ⟨T1, bc - 18 - 1 - 1 - 18 - 9, bs - 108 - 6 - 6 - 108 - 54, k1, k2, ?_, ?_, ?_⟩
        rotate_left 2
        · rw [if_pos d, gd_e (show tK (T, A).1 0 = 12 from h.1.1), gd_e h5, show h_13019 0 (nI l) (T, A).1 = some (T1, M l) from e1, bO_some, bS_eq, if_pos rfl]
          exact J115 T1 _ _
        · omega
        · omega
      · refine ⟨T, bc - 18 - 1 - 1 - 18, bs - 108 - 6 - 6 - 108, h, rfl, ?_, ?_, ?_⟩
        rotate_left 2
        · rw [if_neg d]
          exact J115 T _ _
        · omega
        · omega
    obtain ⟨T1, c1', s1', k1, k2, k3, k4, k5⟩ := go
    obtain ⟨T', bc', bs', r1, r2, r3, r4, r5⟩ := ih n (l + 1) c1' s1' _ T1 k1 (by omega) (by omega) (by omega) (by omega)
    refine ⟨T', bc', bs', r1, r2.trans k2, Nat.le_trans k3 (Nat.le_trans (Nat.add_le_add_right r3 47) (Nat.le_of_eq (by rw [Nat.mul_succ, Nat.add_assoc]))), Nat.le_trans k4 (Nat.le_trans (Nat.add_le_add_right r4 282) (Nat.le_of_eq (by rw [Nat.mul_succ, Nat.add_assoc]))), ?_⟩
    rw [l_13038_L28]
    show gd (vi 1 (A 79).length) (if xg (A 79) 1 ≤ nI l then _ else gd _ (bP (l_13037 0 74 77 78 (nI l) 0 (T, A)) _)) = _
    rw [gd_e v1, x1, if_neg (fun z => by have := (nI_gle (by omega) (by omega)).1 z; omega), gd_e h1, m3 0, if_pos rfl, bP_some, gd_e (show tK (T, A).1 0 = 12 from h.1.1), gd_e h2, show h_13018 0 (nI l) (T, A).1 = some (M l) from a_mark h hl' m1, bP_some, if_pos rfl, gd_e (show tK (T, A).1 0 = 12 from h.1.1), gd_e h3, show h_13017 0 (nI l) (T, A).1 = some R from a_points h hl' m2, bP_some, gd_e h4, m3 1, if_neg one_0, bP_some, if_pos rfl]
    exact k5.trans r5
end ISM
