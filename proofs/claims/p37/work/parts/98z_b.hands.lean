/-! the law hands in: its loop -/
section HNT
variable {T T' : Tx} {m m0 m' : Mx} {tx ty : List Int32} {e0 n0 td i j k n l N : Nat} {t : Nat → Nat} {A : Nat → List Int32} {v w a b e : Int32} {O C : List Int32} {f' F bc bs : Nat} {es : List Nat} {ts : Nat → List Nat} {as : List Nat} {ps : Nat → Nat} {txs : Nat → List Int32} {ss : Nat → Sx} {pd : Nat} {own : Nat → Nat} {x6 x7 : Int32}
theorem hn_st (hw : Wt 0 m T tx) (hPr : PrW tx n) (hBk : BkI m A e0 (n0 + 1) td t) (h45 : m 45 n0 = nI tx.length) (h2 : ∀ k, k < tx.length → m 2 (300 * n0 + k) = tx.getD k 0) (h47 : m 47 n0 = nI j) (hj : j < e0) (hl : l < t j) (hb : 48 ≤ bc ∧ 3748 ≤ bs) :
    HnS m tx A N x6 x7 j n0 l bc bs (l_13039_L159 (N + 1) 0 75 76 77 78 79 x6 x7 (nI j) (nI n0) 1 (nI l) bc bs (T, A)) := by
  have hlen := hw.len
  have hok : ∀ s0 s1, tkR s0 (tks tx) → f_5001 s0 = some s1 → s1.2 0 = 0 := fun s0 s1 a b => (hPr.ok hlen a b).1
  obtain ⟨⟨b1, b1'⟩, ⟨b2, b2'⟩, ⟨b3, b3'⟩, ⟨l74, l75, l76, l77, l78, l79⟩, c1, cE, c0, cQ, cA⟩ := hBk
  obtain ⟨F, D, f1, f2, f3, f4, f5, f6, f7, f8, f9⟩ := cE j hj
  obtain ⟨W, G, c, u, v, g1, g2, g3, g4, g5, g6, g7, g8, g9, g10, g11, g12, g13, g14, g15⟩ := cQ j l hj hl
  obtain ⟨O, C, f', e, k1, k2, k3, k4, hR, _⟩ := hw.run hok F (m 41 (2 * (8 * j + l))) (m 41 (2 * (8 * j + l) + 1)) (by omega)
  obtain ⟨⟨T1, e1, w1, tr⟩, _⟩ := hw.trial hok k2 k3 (by omega) hR
  have w1' := w1
  obtain ⟨m2, ⟨es, ts, as, ps, txs, ss, pd, own, h, hz⟩, hM⟩ := w1
  have n30 := h.2.2.2.2.1.2.1
  have n1 : as.length = n0 + 1 := by
    have q : m2 0 74 = nI as.length := h.2.2.2.2.1.1
    rw [hM.2 74 (by omega), b2] at q
    exact ((nI_eq (by omega) (by omega)).1 q).symm
  have hi : n0 < as.length := by omega
  have E : ∀ J, 37 ≤ J → m2 J = m J := fun J hJ => hM.1 J (Or.inr hJ)
  have hRed := hn_red (ty := tx) h hi hlen (by rw [E 45 (by decide)]; exact h45) (fun k hk => by rw [hM.1 2 (Or.inl rfl)]; exact h2 k hk)
  have h47' : m2 47 n0 = nI j := by rw [E 47 (by decide)]; exact h47
  obtain ⟨q1, q2, q3, q4⟩ := anE h hi h47' (by omega)
  have ht : (ts j).length = t j := by
    rw [E 39 (by decide), f7] at q3
    exact ((nI_eq (by omega) (by omega)).1 q3).symm
  obtain ⟨r1, r2⟩ := hn_run (k := l) h hi hR hRed h47' (by omega) (by omega) (by rw [E 37 (by decide)]; exact f1) (by rw [E 41 (by decide)]) (by rw [E 41 (by decide)])
  rw [E 42 (by decide), E 43 (by decide), g9, g11, g13] at r2
  unfold PasIs at r2
  have e8 : 8 * nI j + nI l = nI (8 * j + l) := n8 (by omega)
  have e82 : 2 * (8 * nI j + nI l) = nI (2 * (8 * j + l)) := by rw [e8, n2 (by omega)]
  have e83 : 2 * (8 * nI j + nI l) + 1 = nI (2 * (8 * j + l) + 1) := by rw [e82, nI_p1 (by omega)]
  have e4 : (4 : Int32) + nI j = nI (4 + j) := nI_pl (a := 4) (by omega) (by omega)
  have x4 : xg (A 77) (4 + nI j) = nI (t j) := by rw [e4, xg_n (by omega), f9]
  have v4 : vi (4 + nI j) (A 77).length := by rw [e4, l77]; exact vi_n (by omega) (by omega)
  have x77 : xg (A 77) (nI j) = nI (F + 4096 * D) := by rw [xg_n (by omega), f6]
  have vj : vi (nI j) (A 77).length := by rw [l77]; exact vi_n (by omega) (by omega)
  have xa : xg (A 75) (2 * (8 * nI j + nI l)) = m 41 (2 * (8 * j + l)) := by rw [e82, xg_n (by omega), g7]
  have xb : xg (A 75) (2 * (8 * nI j + nI l) + 1) = m 41 (2 * (8 * j + l) + 1) := by rw [e83, xg_n (by omega), g8]
  have va : vi (2 * (8 * nI j + nI l)) (A 75).length := by rw [e82, l75]; exact vi_n (by omega) (by omega)
  have vb : vi (2 * (8 * nI j + nI l) + 1) (A 75).length := by rw [e83, l75]; exact vi_n (by omega) (by omega)
  have x76 : xg (A 76) (8 * nI j + nI l) = nI (c + 4 * u + 64 * v) := by rw [e8, xg_n (by omega), g15]
  have v76 : vi (8 * nI j + nI l) (A 76).length := by rw [e8, l76]; exact vi_n (by omega) (by omega)
  obtain ⟨d1, d2, d3⟩ := w_val2 g10 g12 g14
  have hb0 := hb.1
  have hb0' := hb.2
  have hb1 : 42 ≤ bc ∧ 3712 ≤ bs := ⟨by omega, by omega⟩
  have hb2 : 1 ≤ bc - 42 ∧ 6 ≤ bs - 3712 := ⟨by omega, by omega⟩
  have fin : ∀ (p : Int32) (bc2 bs2 : Nat), p = m2 51 (8 * n0 + l) → bc ≤ bc2 + 44 → bs ≤ bs2 + 3724 → HnS m tx A N x6 x7 j n0 l bc bs (l_13039_J284 (l_13039_L159 N) 0 75 76 77 78 79 x6 x7 (nI j) (nI n0) 1 (nI l) (8 * nI j + nI l) e (nI c) p bc2 bs2 (T1, A)) := fun p bc2 bs2 hp h1 h2 => by
    have y1 : 4 ≤ bc2 ∧ 24 ≤ bs2 := by omega
    have y2 := hn_284 (A := A) (x6 := x6) (x7 := x7) (c12 := 8 * nI j + nI l) (c14 := nI c) h hi h47' (by omega) (by omega) (l_13039_L159 N) hp r1.symm y1
    exact ⟨T1, _, _, w1', by omega, by omega, y2⟩
  have hx0 : xg O 0 = O.getD 0 0 := xg_n (a := 0) (by omega)
  rw [l_13039_L159]
  show HnS m tx A N x6 x7 j n0 l bc bs (gd (vi (4 + nI j) (A 77).length) (if xg (A 77) (4 + nI j) ≤ nI l then _ else if (1 : Int32) = 0 then _ else gd (vi (nI j) (A 77).length) (gd _ (gd (vi (2 * (8 * nI j + nI l)) (A 75).length) (gd (vi (2 * (8 * nI j + nI l) + 1) (A 75).length) (gd (tK T 0 = 12) (gd _ (bO (h_13006 0 (xg (A 77) (nI j) % 4096) (xg (A 75) (2 * (8 * nI j + nI l))) (xg (A 75) (2 * (8 * nI j + nI l) + 1)) T) _))))))))
  rw [gd_e v4, x4, if_neg (fun z => by have := (nI_gle (by omega) (by omega)).1 z; omega), if_neg one_0, gd_e vj, gd_e (by decide), gd_e va, gd_e vb, gd_e hw.k12, gd_e hb1, x77, e_val f4 f5, xa, xb, e1, bO_some, bS_eq]
  show HnS m tx A N x6 x7 j n0 l bc bs (gd (vi (8 * nI j + nI l) (A 76).length) (gd _ (if e = 0 then gd (tK T1 0 = 12) (bP (h_11011 0 T1) fun r18 => if r18 = xg (A 76) (8 * nI j + nI l) % 4 then if xg (A 76) (8 * nI j + nI l) % 4 < 1 then l_13039_J258 (l_13039_L159 N) 0 75 76 77 78 79 x6 x7 (nI j) (nI n0) 1 (nI l) (8 * nI j + nI l) e (xg (A 76) (8 * nI j + nI l) % 4) (bc - 42) (bs - 3712) (T1, A) else gd (tK T1 0 = 12) (gd (1 ≤ bc - 42 ∧ 6 ≤ bs - 3712) (bP (h_13008 0 0 T1) fun r21 => gd (vi (8 * nI j + nI l) (A 76).length) (gd _ (gd _ (if r21 = xg (A 76) (8 * nI j + nI l) / 4 % 16 then l_13039_J258 (l_13039_L159 N) 0 75 76 77 78 79 x6 x7 (nI j) (nI n0) 1 (nI l) (8 * nI j + nI l) e (xg (A 76) (8 * nI j + nI l) % 4) (bc - 42 - 1) (bs - 3712 - 6) (T1, A) else l_13039_J283 (l_13039_L159 N) 0 75 76 77 78 79 x6 x7 (nI j) (nI n0) 1 (nI l) (8 * nI j + nI l) e (xg (A 76) (8 * nI j + nI l) % 4) (bc - 42 - 1) (bs - 3712 - 6) (T1, A)))))) else l_13039_J283 (l_13039_L159 N) 0 75 76 77 78 79 x6 x7 (nI j) (nI n0) 1 (nI l) (8 * nI j + nI l) e (xg (A 76) (8 * nI j + nI l) % 4) (bc - 42) (bs - 3712) (T1, A)) else l_13039_J283 (l_13039_L159 N) 0 75 76 77 78 79 x6 x7 (nI j) (nI n0) 1 (nI l) (8 * nI j + nI l) e (xg (A 76) (8 * nI j + nI l) % 4) (bc - 42) (bs - 3712) (T1, A))))
  rw [gd_e v76, gd_e (by decide), x76, d1, d2]
  have J258 : ∀ bc2 bs2, bc ≤ bc2 + 43 → bs ≤ bs2 + 3718 → e = 0 → nI O.length = nI c → (nI c < 1 ∨ xg O 0 = nI u) → HnS m tx A N x6 x7 j n0 l bc bs (l_13039_J258 (l_13039_L159 N) 0 75 76 77 78 79 x6 x7 (nI j) (nI n0) 1 (nI l) (8 * nI j + nI l) e (nI c) bc2 bs2 (T1, A)) := fun bc2 bs2 h1 h2 y0 y1 y2 => by
    have y3 : O.length = c := (nI_eq (by omega) (by omega)).1 y1
    have y5 : 5 ≤ bc2 ∧ 30 ≤ bs2 := by omega
    exact hn_258 w1' tr k2 g10 g12 g14 (by omega) l76 g15 (fun r => HnS m tx A N x6 x7 j n0 l bc bs r) (l_13039_L159 N) y3 (fun y bc3 bs3 h3 h4 => fin 1 bc3 bs3 (by rw [r2, if_pos ⟨y0, y1, y2, y⟩]) (by omega) (by omega)) (fun y bc3 bs3 h3 h4 => fin 0 bc3 bs3 (by rw [r2, if_neg (fun z => y z.2.2.2)]) (by omega) (by omega)) y5
  have J283 : ∀ bc2 bs2, bc ≤ bc2 + 43 → bs ≤ bs2 + 3718 → ¬ (e = 0 ∧ nI O.length = nI c ∧ (nI c < 1 ∨ xg O 0 = nI u) ∧ (nI c < 2 ∨ xg O 1 = nI v)) → HnS m tx A N x6 x7 j n0 l bc bs (l_13039_J283 (l_13039_L159 N) 0 75 76 77 78 79 x6 x7 (nI j) (nI n0) 1 (nI l) (8 * nI j + nI l) e (nI c) bc2 bs2 (T1, A)) := fun bc2 bs2 h1 h2 y => by
    unfold l_13039_J283
    exact fin 0 bc2 bs2 (by rw [r2, if_neg y]) (by omega) (by omega)
  by_cases z0 : e = 0
  · rw [if_pos z0, gd_e w1'.k12, (w1'.outs tr).1, bP_some]
    by_cases z1 : nI O.length = nI c
    · rw [if_pos z1]
      by_cases z2 : nI c < 1
      · rw [if_pos z2]
        exact J258 _ _ (by omega) (by omega) z0 z1 (Or.inl z2)
      · have y3 : O.length = c := (nI_eq (by omega) (by omega)).1 z1
        have y4 : 0 < O.length := by
          rw [i_lt, nI_T (by omega), show (1 : Int32).toInt = 1 by decide] at z2
          omega
        rw [if_neg z2, gd_e w1'.k12, gd_e hb2, show h_13008 0 0 T1 = some (O.getD 0 0) from w1'.outAt tr (k := 0) y4, bP_some, gd_e v76, gd_e (by decide), gd_e (by decide)]
        by_cases z3 : O.getD 0 0 = nI u
        · rw [if_pos z3]
          exact J258 _ _ (by omega) (by omega) z0 z1 (Or.inr (hx0.trans z3))
        · rw [if_neg z3]
          exact J283 _ _ (by omega) (by omega) (fun y => by
            rcases y.2.2.1 with y' | y'
            · exact z2 y'
            · exact z3 (hx0.symm.trans y'))
    · rw [if_neg z1]
      exact J283 _ _ (by omega) (by omega) (fun y => z1 y.2.1)
  · rw [if_neg z0]
    exact J283 _ _ (by omega) (by omega) (fun y => z0 y.1)
/-- all tests -/
theorem hn_L (hPr : PrW tx n) (hBk : BkI m A e0 (n0 + 1) td t) (h45 : m 45 n0 = nI tx.length) (h2 : ∀ k, k < tx.length → m 2 (300 * n0 + k) = tx.getD k 0) (h47 : m 47 n0 = nI j) (hj : j < e0) : ∀ (q N l bc bs : Nat) (T : Tx), l + q = t j → q < N → Wt 0 m T tx → 48 * q + 4 ≤ bc → 3748 * q + 24 ≤ bs →
    ∃ T', Wt 0 m T' tx ∧ l_13039_L159 N 0 75 76 77 78 79 x6 x7 (nI j) (nI n0) 1 (nI l) bc bs (T, A) = some ((T', A), 1) := by
  have hBk' := hBk
  obtain ⟨⟨b1, b1'⟩, ⟨b2, b2'⟩, ⟨b3, b3'⟩, ⟨l74, l75, l76, l77, l78, l79⟩, c1, cE, c0, cQ, cA⟩ := hBk
  obtain ⟨F, D, f1, f2, f3, f4, f5, f6, f7, f8, f9⟩ := cE j hj
  have e4 : (4 : Int32) + nI j = nI (4 + j) := nI_pl (a := 4) (by omega) (by omega)
  have x4 : xg (A 77) (4 + nI j) = nI (t j) := by rw [e4, xg_n (by omega), f9]
  have v4 : vi (4 + nI j) (A 77).length := by rw [e4, l77]; exact vi_n (by omega) (by omega)
  intro q
  induction q with
  | zero =>
    intro N l bc bs T hl hN hw hc hs
    obtain ⟨N, rfl⟩ : ∃ z, N = z + 1 := ⟨N - 1, by omega⟩
    refine ⟨T, hw, ?_⟩
    obtain ⟨m2, ⟨es, ts, as, ps, txs, ss, pd, own, h, hz⟩, hM⟩ := hw
    have n30 := h.2.2.2.2.1.2.1
    have n1 : as.length = n0 + 1 := by
      have q : m2 0 74 = nI as.length := h.2.2.2.2.1.1
      rw [hM.2 74 (by omega), b2] at q
      exact ((nI_eq (by omega) (by omega)).1 q).symm
    have hi : n0 < as.length := by omega
    have E : ∀ J, 37 ≤ J → m2 J = m J := fun J hJ => hM.1 J (Or.inr hJ)
    have h47' : m2 47 n0 = nI j := by rw [E 47 (by decide)]; exact h47
    obtain ⟨q1, q2, q3, q4⟩ := anE h hi h47' (by omega)
    have ht : (ts j).length = t j := by
      rw [E 39 (by decide), f7] at q3
      exact ((nI_eq (by omega) (by omega)).1 q3).symm
    have hb1 : 2 ≤ bc ∧ 12 ≤ bs := by omega
    have hb2 : 2 ≤ bc - 2 ∧ 12 ≤ bs - 12 := by omega
    rw [l_13039_L159]
    show gd (vi (4 + nI j) (A 77).length) (if xg (A 77) (4 + nI j) ≤ nI l then l_13039_J333 0 75 76 77 78 79 x6 x7 (nI j) (nI n0) 1 (nI l) bc bs (T, A) else _) = _
    rw [gd_e v4, x4, if_pos ((nI_gle (by omega) (by omega)).2 (by omega))]
    unfold l_13039_J333
    rw [if_neg one_0]
    show gd (vi (4 + nI j) (A 77).length) (gd (tK T 0 = 12) (gd _ (bP (h_13016 0 (nI n0) (xg (A 77) (4 + nI j)) T) _))) = _
    rw [gd_e v4, gd_e h.1.1, gd_e hb1, x4, a_endF h hi h47' (by omega) (by rw [nI_T (by omega)]; omega), bP_some, if_pos rfl]
    show gd (tK T 0 = 12) (gd _ (bP (h_13015 0 (nI n0) (-1) T) _)) = _
    rw [gd_e h.1.1, gd_e hb2, a_passF h hi h47' (by omega) (by rw [show (-1 : Int32).toInt = -1 by decide]; omega), bP_some, if_pos rfl]
  | succ q ih =>
    intro N l bc bs T hl hN hw hc hs
    obtain ⟨N, rfl⟩ : ∃ z, N = z + 1 := ⟨N - 1, by omega⟩
    obtain ⟨T1, bc', bs', y1, y2, y3, y4⟩ := hn_st (N := N) (x6 := x6) (x7 := x7) (bc := bc) (bs := bs) (l := l) hw hPr hBk' h45 h2 h47 hj (by omega) ⟨by omega, by omega⟩
    obtain ⟨T', w1, w2⟩ := ih N (l + 1) bc' bs' T1 (by omega) (by omega) y1 (by omega) (by omega)
    exact ⟨T', w1, y4.trans w2⟩
end HNT
