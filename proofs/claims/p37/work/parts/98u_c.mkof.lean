/-! marks by the law's books: all tests -/
section MKL
variable {T T' : Tx} {m m0 m' : Mx} {tx : List Int32} {e0 n0 td i : Nat} {t : Nat → Nat} {A : Nat → List Int32} {es : List Nat} {ts : Nat → List Nat} {as : List Nat} {ps : Nat → Nat} {txs : Nat → List Int32} {ss : Nat → Sx} {pd : Nat} {own : Nat → Nat}
theorem f98_e {P : Int32} {j : Nat} (h47 : m 47 i = nI j) (hi : i < 30) (hj : j < 4) (hP : f_12097 (nI i) m = some P) : f_12098 (nI i) m = some (if m 49 i = 0 then P * (100 - (if m 48 i - m 38 j ≤ 5 then (if m 48 i - m 38 j ≤ 0 then 0 else 10 * (m 48 i - m 38 j)) else 50)) / 100 else 0) := by
  have e47 : mg m 47 (nI i) = nI j := by rw [mg_n (by omega)]; exact h47
  have e48 : mg m 48 (nI i) = m 48 i := mg_n (by omega)
  have e49 : mg m 49 (nI i) = m 49 i := mg_n (by omega)
  have e38 : mg m 38 (nI j) = m 38 j := mg_n (by omega)
  have J : ∀ k0 d : Int32, f_12098_J41 (nI i) d k0 m = some (if m 49 i = 0 then P * (100 - k0) / 100 else 0) := by
    intro k0 d
    unfold f_12098_J41
    rw [gd_e (vi_n (by omega) (by omega)), e49, hP]
    by_cases q : m 49 i = 0
    · rw [if_pos q, if_pos q, bP_some, gd_e (show ¬ (100 : Int32) = 0 by decide)]
    · rw [if_neg q, if_neg q]
  unfold f_12098
  rw [gd_e (vi_n (by omega) (by omega)), gd_e (vi_n (by omega) (by omega)), e47, gd_e (vi_n (by omega) (by omega)), e48, e38]
  by_cases c5 : m 48 i - m 38 j ≤ 5
  · rw [if_pos c5, if_pos c5]
    by_cases c0 : m 48 i - m 38 j ≤ 0
    · rw [if_pos c0, if_pos c0, J]
    · rw [if_neg c0, if_neg c0, J]
  · rw [if_neg c5, if_neg c5, J]
theorem mo_L (h : SInv 0 T m tx es ts as ps txs ss pd own) (hB : BkI m A e0 n0 td t) (hi : i < n0) {P J D G F Q : Nat} (hP : P < 6) (hJ : J < e0) (hD : D ≤ 500) (hG : G ≤ 1) (h47 : m 47 i = nI J) (hA : (A 78).getD i 0 = nI (P + 8 * J + 32 * D + 65536 * G)) (hF : F ≤ 300) (hQ : Q ≤ 508) (hE : (A 77).getD J 0 = nI (F + 4096 * Q)) (pts : Int32) :
    ∀ (q n n' l bc bs : Nat) (a b : Int32), l + q = t J → q < n → q < n' → 2 * q ≤ bc → 12 * q ≤ bs → ∃ R : Int32, f_12097_L7 n' (nI i) a b (nI l) m = some R ∧ l_13037_L20 n 0 74 77 78 (nI i) pts (nI J) a b (nI l) bc bs (T, A) = some (if pts = 0 then (if G = 1 then 0 else R * (100 - (if nI D - nI Q ≤ 5 then (if nI D - nI Q ≤ 0 then 0 else 10 * (nI D - nI Q)) else 50)) / 100) else R) := by
  obtain ⟨⟨b1, b2⟩, ⟨b3, b4⟩, b5, ⟨l74, l75, l76, l77, l78, l79⟩, c1, cE, c0, cQ, cA⟩ := hB
  obtain ⟨F', D', f1, f2, f3, f4, f5, f6, f7, f8, f9⟩ := cE J hJ
  have hn : n0 = as.length := (nI_eq (by omega) (by have := h.2.2.2.2.1.2.1; omega)).1 (b3.symm.trans h.2.2.2.2.1.1)
  have e47 : mg m 47 (nI i) = nI J := by rw [mg_n (by omega)]; exact h47
  have e39 : mg m 39 (nI J) = nI (t J) := by rw [mg_n (by omega)]; exact f7
  have x4 : xg (A 77) (4 + nI J) = nI (t J) := by
    rw [show (4 : Int32) + nI J = nI (4 + J) from nI_pl (a := 4) (by omega) (by omega), xg_n (by omega), f9]
  have v4 : vi (4 + nI J) (A 77).length := by
    rw [show (4 : Int32) + nI J = nI (4 + J) from nI_pl (a := 4) (by omega) (by omega), l77]
    exact vi_n (by omega) (by omega)
  intro q
  induction q with
  | zero =>
    intro n n' l bc bs a b hl hn1 hn2 hc hs
    obtain ⟨n, rfl⟩ : ∃ k, n = k + 1 := ⟨n - 1, by omega⟩
    obtain ⟨n', rfl⟩ : ∃ k, n' = k + 1 := ⟨n' - 1, by omega⟩
    have c : nI (t J) ≤ nI l := (nI_gle (by omega) (by omega)).2 (by omega)
    refine ⟨if a = 0 then 0 else 100 * b / a, ?_, ?_⟩
    · rw [f_12097_L7, gd_e (vi_n (by omega) (by omega)), e47, gd_e (vi_n (by omega) (by omega)), e39, if_pos c]
      by_cases z : a = 0
      · rw [if_pos z, if_pos z]
      · rw [if_neg z, if_neg z, gd_e z]
    · exact mo_end hP (by omega) hD hG hF hQ hA hE l78 l77 (by omega) (nI l) (by rw [x4]; exact c)
  | succ q ih =>
    intro n n' l bc bs a b hl hn1 hn2 hc hs
    obtain ⟨n, rfl⟩ : ∃ k, n = k + 1 := ⟨n - 1, by omega⟩
    obtain ⟨n', rfl⟩ : ∃ k, n' = k + 1 := ⟨n' - 1, by omega⟩
    obtain ⟨W, G', c, u, v, w1, w2, w3, w4, w5, w6, _⟩ := cQ J l hJ (by omega)
    have ncl : ¬ nI (t J) ≤ nI l := fun z => by have := (nI_gle (by omega) (by omega)).1 z; omega
    have e8 : 8 * nI J + nI l = nI (8 * J + l) := n8 (by omega)
    have e8i : 8 * nI i + nI l = nI (8 * i + l) := n8 (by omega)
    have e44 : mg m 44 (nI (8 * J + l)) = nI G' := by rw [mg_n (by omega)]; exact w4
    have e40 : mg m 40 (nI (8 * J + l)) = nI W := by rw [mg_n (by omega)]; exact w1
    have e51 : mg m 51 (nI (8 * i + l)) = m 51 (8 * i + l) := mg_n (by omega)
    obtain ⟨p1, p2⟩ := psE (i := i) (k := l) h (by omega) h47 (by omega) (by rw [f7, i_lt, nI_T (by omega), nI_T (by omega)]; omega) (by omega)
    have x74 : xg (A 74) (8 * nI J + nI l) = nI (W + 16 * G') := by rw [e8, xg_n (by omega), w6]
    have v74 : vi (8 * nI J + nI l) (A 74).length := by
      rw [e8, l74]
      exact vi_n (by omega) (by omega)
    have l15 : nI (W + 16 * G') ≤ 15 ↔ G' = 0 := by
      rw [i_le, nI_T (by omega), show (15 : Int32).toInt = 15 by decide]
      omega
    have hm : f_12097_L7 (n' + 1) (nI i) a b (nI l) m = f_12097_L7 n' (nI i) (a + (if G' = 0 then nI W else 0)) (b + (if G' = 0 then (if m 51 (8 * i + l) = 1 then nI W else 0) else 0)) (nI (l + 1)) m := by
      have g0 : nI G' = 0 ↔ G' = 0 := ⟨fun z => (nI_eq (b := 0) (by omega) (by omega)).1 z, fun z => by rw [z]; rfl⟩
      rw [f_12097_L7, gd_e (vi_n (by omega) (by omega)), e47, gd_e (vi_n (by omega) (by omega)), e39, if_neg ncl, gd_e (vi_n (by omega) (by omega)), e8, gd_e (vi_n (by omega) (by omega)), e44]
      by_cases z : G' = 0
      · rw [if_pos (g0.2 z), gd_e (vi_n (by omega) (by omega)), e40, if_pos z, if_pos z]
        unfold f_12097_J59 f_12097_J97
        rw [gd_e (vi_n (by omega) (by omega)), e44, if_pos (g0.2 z), e8i, gd_e (vi_n (by omega) (by omega)), e51, nI_p1 (by omega)]
        rcases p2 with y | y
        · rw [if_pos y, if_neg (show ¬ m 51 (8 * i + l) = 1 by rw [y]; decide)]
        · rw [if_neg (show ¬ m 51 (8 * i + l) = 0 by rw [y]; decide), if_pos y, gd_e (vi_n (by omega) (by omega)), e40]
      · rw [if_neg (fun y => z (g0.1 y)), if_neg z, if_neg z]
        unfold f_12097_J59 f_12097_J97
        rw [gd_e (vi_n (by omega) (by omega)), e44, if_neg (fun y => z (g0.1 y)), nI_p1 (by omega)]
    have hl' : l_13037_L20 (n + 1) 0 74 77 78 (nI i) pts (nI J) a b (nI l) bc bs (T, A) = l_13037_L20 n 0 74 77 78 (nI i) pts (nI J) (a + (if G' = 0 then nI W else 0)) (b + (if G' = 0 then (if m 51 (8 * i + l) = 1 then nI W else 0) else 0)) (nI (l + 1)) (bc - 2) (bs - 12) (T, A) := by
      have j60 : ∀ k0 : Int32, l_13037_J60 (l_13037_L20 n) 0 74 77 78 (nI i) pts (nI J) a b (nI l) k0 bc bs (T, A) = l_13037_L20 n 0 74 77 78 (nI i) pts (nI J) (a + k0) (b + (if m 51 (8 * i + l) = 1 then k0 else 0)) (nI (l + 1)) (bc - 2) (bs - 12) (T, A) := fun k0 => by
        unfold l_13037_J60
        rw [gd_e (show tK (T, A).1 0 = 12 from h.1.1), gd_e ⟨by omega, by omega⟩, show h_13015 0 (nI i) (nI l) (T, A).1 = some (m 51 (8 * i + l)) from p1, bP_some, nI_p1 (by omega)]
        rcases p2 with y | y
        · rw [if_neg (show ¬ m 51 (8 * i + l) = 1 by rw [y]; decide), if_neg (show ¬ m 51 (8 * i + l) = 1 by rw [y]; decide)]
        · rw [if_pos y, if_pos y]
      rw [l_13037_L20]
      show gd (vi (4 + nI J) (A 77).length) (if xg (A 77) (4 + nI J) ≤ nI l then _ else gd (vi (8 * nI J + nI l) (A 74).length) (if xg (A 74) (8 * nI J + nI l) ≤ 15 then gd (vi (8 * nI J + nI l) (A 74).length) (l_13037_J60 (l_13037_L20 n) 0 74 77 78 (nI i) pts (nI J) a b (nI l) (xg (A 74) (8 * nI J + nI l)) bc bs (T, A)) else l_13037_J60 (l_13037_L20 n) 0 74 77 78 (nI i) pts (nI J) a b (nI l) 0 bc bs (T, A))) = _
      rw [gd_e v4, x4, if_neg ncl, gd_e v74, x74]
      by_cases z : G' = 0
      · rw [if_pos (l15.2 z), gd_e v74, j60, if_pos z, if_pos z, z, Nat.mul_zero, Nat.add_zero]
      · rw [if_neg (fun y => z (l15.1 y)), j60, if_neg z, if_neg z]
        rcases p2 with y | y
        · rw [if_neg (show ¬ m 51 (8 * i + l) = 1 by rw [y]; decide)]
        · rw [if_pos y]
    obtain ⟨R, r1, r2⟩ := ih n n' (l + 1) (bc - 2) (bs - 12) (a + (if G' = 0 then nI W else 0)) (b + (if G' = 0 then (if m 51 (8 * i + l) = 1 then nI W else 0) else 0)) (by omega) (by omega) (by omega) (by omega) (by omega)
    exact ⟨R, hm.trans r1, hl'.trans r2⟩
/-- the mark and the points, by the law's books -/
theorem mkOf (h : SInv 0 T m tx es ts as ps txs ss pd own) (hB : BkI m A e0 n0 td t) (hi : i < n0) : ∃ M R : Int32, f_12098 (nI i) m = some M ∧ f_12097 (nI i) m = some R ∧ ∀ pts, l_13037 0 74 77 78 (nI i) pts (T, A) = some (if pts = 0 then M else R) := by
  have hB' := hB
  obtain ⟨⟨b1, b2⟩, ⟨b3, b4⟩, b5, ⟨l74, l75, l76, l77, l78, l79⟩, c1, cE, c0, cQ, cA⟩ := hB
  obtain ⟨P, J, D, G, g1, g2, g3, g4, g5, g6, g7, g8, g9⟩ := cA i hi
  obtain ⟨F, Q, f1, f2, f3, f4, f5, f6, f7, f8, f9⟩ := cE J g4
  obtain ⟨R, r1, _⟩ := mo_L h hB' hi g2 g4 g6 g8 g3 g9 f4 f5 f6 0 (t J) 12 1000 0 18 108 0 0 (by omega) (by omega) (by omega) (by omega) (by omega)
  have e97 : f_12097 (nI i) m = some R := r1
  have e98 := f98_e g3 (by omega) (by omega) e97
  rw [g5, f2, g7] at e98
  have gG : (nI G = 0) ↔ ¬ G = 1 := by
    constructor
    · intro z y
      rw [y] at z
      exact absurd z (by decide)
    · intro z
      have : G = 0 := by omega
      rw [this]; rfl
  refine ⟨_, R, e98, e97, fun pts => ?_⟩
  obtain ⟨R', s1, s2⟩ := mo_L h hB' hi g2 g4 g6 g8 g3 g9 f4 f5 f6 pts (t J) 12 1000 0 18 108 0 0 (by omega) (by omega) (by omega) (by omega) (by omega)
  have eR : R' = R := by
    have := s1.symm.trans r1
    injection this
  rw [eR] at s2
  have x78 : xg (A 78) (nI i) = nI (P + 8 * J + 32 * D + 65536 * G) := by rw [xg_n (by omega), g9]
  have d8 : nI (P + 8 * J + 32 * D + 65536 * G) / 8 = nI (J + 4 * D + 8192 * G) := by
    show nI (P + 8 * J + 32 * D + 65536 * G) / nI 8 = _
    rw [nI_dv (by omega) (by omega)]
    congr 1
    omega
  have m4 : nI (J + 4 * D + 8192 * G) % 4 = nI J := by
    show nI (J + 4 * D + 8192 * G) % nI 4 = _
    rw [nI_md (by omega) (by omega) (by omega)]
    congr 1
    omega
  unfold l_13037
  show gd (vi (nI i) (A 78).length) (gd _ (gd _ (l_13037_L20 12 0 74 77 78 (nI i) pts ((xg (A 78) (nI i) / 8) % 4) 0 0 0 18 108 (T, A)))) = _
  rw [gd_e (by rw [l78]; exact vi_n (by omega) (by omega)), gd_e (by decide), gd_e (by decide), x78, d8, m4]
  refine Eq.trans s2 ?_
  by_cases c : pts = 0
  · rw [if_pos c, if_pos c]
    by_cases g : G = 1
    · rw [if_pos g, if_neg (fun z => gG.1 z g)]
    · rw [if_neg g, if_pos (gG.2 g)]
  · rw [if_neg c, if_neg c]
end MKL
