/-! the law accuses: from its first line -/
section ACU
variable {T T' : Tx} {m m0 m' : Mx} {tx : List Int32} {e0 n0 td i j k : Nat} {t : Nat → Nat} {A : Nat → List Int32} {v w M : Int32} {es : List Nat} {ts : Nat → List Nat} {as : List Nat} {ps : Nat → Nat} {txs : Nat → List Int32} {ss : Nat → Sx} {pd : Nat} {own : Nat → Nat}
theorem a_pL (h : SInv 0 T m tx es ts as ps txs ss pd own) (hi : i < as.length) : ((ss i).1 5).length ≤ 100 := by
  obtain ⟨m', I, c, d, g1, g2, g3, g4, g5, g6⟩ := h.rdA hi
  exact (Prt.of g4 g5 g6).1
theorem ac_224 (h : SInv 0 T m tx es ts as ps txs ss pd own) (hB : BkI m A e0 n0 td t) (hn : n0 = as.length) (hi : i < n0) (hk : k < n0) (hM : f_12098 (nI i) m = some M) (l5 l9 : Int32) {bc bs : Nat} (hb : 406 ≤ bc ∧ 2476 ≤ bs) :
    AcR T m A e0 n0 td t tx es ts as ps txs ss pd own (l_13040_J224 0 74 77 78 79 l5 (nI i) (nI k) (nI (gi (ss i) (ss k))) l9 1 M bc bs (T, A)) := by
  have hB' := hB
  obtain ⟨b1, ⟨b2, b2'⟩, b3, ⟨l74, l75, l76, l77, l78, l79⟩, c1, cE, c0, cQ, cA⟩ := hB
  obtain ⟨P, J, D, G, g1, g2, g3, g4, g5, g6, g7, g8, g9⟩ := cA i hi
  obtain ⟨P', J', D', G', q1, q2, q3, q4, q5, q6, q7, q8, q9⟩ := cA k hk
  have xi : xg (A 78) (nI i) = nI (P + 8 * J + 32 * D + 65536 * G) := by rw [xg_n (by omega), g9]
  have xk : xg (A 78) (nI k) = nI (P' + 8 * J' + 32 * D' + 65536 * G') := by rw [xg_n (by omega), q9]
  have vii : vi (nI i) (A 78).length := by rw [l78]; exact vi_n (by omega) (by omega)
  have vik : vi (nI k) (A 78).length := by rw [l78]; exact vi_n (by omega) (by omega)
  obtain ⟨a1, a2, _, _⟩ := a_val (G := G) g2 (by omega : J < 4) g6 g8
  obtain ⟨a1', a2', _, _⟩ := a_val (G := G') q2 (by omega : J' < 4) q6 q8
  have hi' : i < as.length := by omega
  have hk' : k < as.length := by omega
  have hcb : gi (ss i) (ss k) ≤ 100 := Nat.le_trans (a_comm h hi' hk').2.1 (a_pL h hi')
  have hb1 : 360 ≤ bc ∧ 2200 ≤ bs := by omega
  have hb2 : 40 ≤ bc - 360 ∧ 240 ≤ bs - 2200 := by omega
  have hb3 : 6 ≤ bc - 360 ∧ 36 ≤ bs - 2200 := by omega
  have hb6 : 40 + 6 ≤ bc - 360 := by omega
  have hb7 : 240 + 36 ≤ bs - 2200 := by omega
  have hb4 : 40 ≤ bc - 360 - 6 ∧ 240 ≤ bs - 2200 - 36 := ⟨Nat.le_sub_of_add_le hb6, Nat.le_sub_of_add_le hb7⟩
  have no : susV m ss i k = 0 → ∀ bc bs : Nat, 40 ≤ bc ∧ 240 ≤ bs → AcR T m A e0 n0 td t tx es ts as ps txs ss pd own (l_13040_J300 0 74 77 78 79 l5 (nI i) (nI k) (nI (gi (ss i) (ss k))) l9 1 M (asc (fun k => susV m ss i k) (-1) i 0) bc bs (T, A)) := fun z bc bs hb => by
    unfold l_13040_J300
    exact ac_301 h hB' hn hi hk hM rfl (Or.inr ⟨rfl, z⟩) l5 _ l9 hb
  unfold l_13040_J224
  rw [gd_e (show tK (T, A).1 0 = 12 from h.1.1), gd_e hb1, show h_13027 0 (nI i) (T, A).1 = some (asc (fun k => susV m ss i k) (-1) i 0) from a_doubt h hi', bP_some]
  by_cases d1 : i ≤ k
  · rw [if_pos ((nI_gle (by omega) (by omega)).2 d1)]
    exact no (by unfold susV; rw [if_pos d1]) _ _ hb2
  rw [if_neg (fun z => d1 ((nI_gle (by omega) (by omega)).1 z))]
  show AcR T m A e0 n0 td t tx es ts as ps txs ss pd own (gd (vi (nI i) (A 78).length) (gd _ (gd (vi (nI k) (A 78).length) (gd _ (if xg (A 78) (nI i) % 8 = xg (A 78) (nI k) % 8 then _ else _)))))
  rw [gd_e vii, gd_e (by decide), gd_e vik, gd_e (by decide), xi, xk, a1, a1']
  have eP : nI P = nI P' ↔ m 46 i = m 46 k := by rw [g1, q1]
  by_cases d2 : nI P = nI P'
  · rw [if_pos d2]
    exact no (by unfold susV; rw [if_neg d1, if_pos (eP.1 d2)]) _ _ hb2
  rw [if_neg d2]
  show AcR T m A e0 n0 td t tx es ts as ps txs ss pd own (gd (vi (nI i) (A 78).length) (gd _ (gd _ (gd (vi (nI k) (A 78).length) (gd _ (gd _ (if nI (P + 8 * J + 32 * D + 65536 * G) / 8 % 4 = nI (P' + 8 * J' + 32 * D' + 65536 * G') / 8 % 4 then _ else _)))))))
  rw [gd_e vii, gd_e (by decide), gd_e (by decide), gd_e vik, gd_e (by decide), gd_e (by decide), a2, a2']
  have eJ : nI J = nI J' ↔ m 47 i = m 47 k := by rw [g3, q3]
  by_cases d3 : nI J = nI J'
  · rw [if_pos d3]
    by_cases d4 : nI (gi (ss i) (ss k)) ≤ 2
    · rw [if_pos d4]
      refine no ?_ _ _ hb2
      unfold susV
      rw [if_neg d1, if_neg (fun z => d2 (eP.2 z)), if_pos (eJ.1 d3)]
      have : nI (gi (ss i) (ss k)) < 3 := by
        rw [i_le, nI_T (by omega), show (2 : Int32).toInt = 2 by decide] at d4
        rw [i_lt, nI_T (by omega), show (3 : Int32).toInt = 3 by decide]
        omega
      by_cases d5 : likS (ss i) (ss k) < 80
      · rw [if_pos d5]
      · rw [if_neg d5, if_pos this]
    · have n3 : ¬ nI (gi (ss i) (ss k)) < 3 := fun z => d4 (by
        rw [i_lt, nI_T (by omega), show (3 : Int32).toInt = 3 by decide] at z
        rw [i_le, nI_T (by omega), show (2 : Int32).toInt = 2 by decide]
        omega)
      rw [if_neg d4]
      show AcR T m A e0 n0 td t tx es ts as ps txs ss pd own (gd (tK T 0 = 12) (gd _ (bP (h_13024 0 (nI i) (nI k) T) _)))
      rw [gd_e h.1.1, gd_e hb3, a_lik h hi' hk', bP_some]
      have l80 : likS (ss i) (ss k) ≤ 79 ↔ likS (ss i) (ss k) < 80 := by
        rw [i_le, i_lt, show (79 : Int32).toInt = 79 by decide, show (80 : Int32).toInt = 80 by decide]
        omega
      by_cases d5 : likS (ss i) (ss k) < 80
      · rw [if_pos (l80.2 d5)]
        exact no (by unfold susV; rw [if_neg d1, if_neg (fun z => d2 (eP.2 z)), if_pos (eJ.1 d3), if_pos d5]) _ _ hb4
      · rw [if_neg (fun z => d5 (l80.1 z))]
        refine ac_301 h hB' hn hi hk hM rfl (Or.inl ⟨rfl, ?_⟩) l5 _ l9 hb4
        unfold susV
        rw [if_neg d1, if_neg (fun z => d2 (eP.2 z)), if_pos (eJ.1 d3), if_neg d5, if_neg n3]
        decide
  · rw [if_neg d3]
    exact no (by unfold susV; rw [if_neg d1, if_neg (fun z => d2 (eP.2 z)), if_neg (fun z => d3 (eJ.2 z))]) _ _ hb2
theorem ac_139 (h : SInv 0 T m tx es ts as ps txs ss pd own) (hB : BkI m A e0 n0 td t) (hn : n0 = as.length) (hi : i < n0) (hk : k < n0) (l5 l9 : Int32) {bc bs : Nat} (hb : 450 ≤ bc ∧ 2800 ≤ bs) :
    AcR T m A e0 n0 td t tx es ts as ps txs ss pd own (l_13040_J139 0 74 77 78 79 l5 (nI i) (nI k) (nI (gi (ss i) (ss k))) l9 1 bc bs (T, A)) := by
  have hB' := hB
  obtain ⟨M, R, m1, m2, m3⟩ := mkOf h hB hi
  obtain ⟨b1, ⟨b2, b2'⟩, b3, ⟨l74, l75, l76, l77, l78, l79⟩, c1, cE, c0, cQ, cA⟩ := hB
  obtain ⟨P, J, D, G, g1, g2, g3, g4, g5, g6, g7, g8, g9⟩ := cA i hi
  have xi : xg (A 78) (nI i) = nI (P + 8 * J + 32 * D + 65536 * G) := by rw [xg_n (by omega), g9]
  have vii : vi (nI i) (A 78).length := by rw [l78]; exact vi_n (by omega) (by omega)
  obtain ⟨a1, a2, a3, a4⟩ := a_val (G := G) g2 (by omega : J < 4) g6 g8
  have hi' : i < as.length := by omega
  have hb1 : 18 ≤ bc ∧ 108 ≤ bs := by omega
  have hb2 : 406 ≤ bc - 18 ∧ 2476 ≤ bs - 108 := by omega
  have hb3 : 2 ≤ bc - 18 ∧ 12 ≤ bs - 108 := by omega
  have hb4 : 18 ≤ bc - 18 - 2 ∧ 108 ≤ bs - 108 - 12 := by omega
  have hb5 : 2 ≤ bc - 18 - 2 - 18 ∧ 12 ≤ bs - 108 - 12 - 108 := by omega
  unfold l_13040_J139
  rw [gd_e hb1, m3 0, if_pos rfl, bP_some]
  show AcR T m A e0 n0 td t tx es ts as ps txs ss pd own (gd (vi (nI i) (A 78).length) (if xg (A 78) (nI i) ≤ 65535 then _ else _))
  rw [gd_e vii, xi]
  by_cases d0 : G = 0
  · rw [if_pos (a3.2 d0)]
    exact ac_224 h hB' hn hi hk m1 l5 l9 hb2
  rw [if_neg (fun z => d0 (a3.1 z))]
  obtain ⟨z, hz, ez⟩ := low_n (l5 >>> (10 &&& 31)) (n := 2) (by decide) (by decide) T
  show AcR T m A e0 n0 td t tx es ts as ps txs ss pd own (bP (h_13001 (l5 >>> (10 &&& 31)) (nI 2) T) _)
  rw [ez, bP_some]
  by_cases d1 : nI z = 0
  · rw [if_pos d1]
    have hG1 : G = 1 := by omega
    have n49 : m 49 i ≠ 0 := by rw [g7, hG1]; decide
    obtain ⟨M', f1, f2, f3⟩ := a_clear h hi' n49
    obtain ⟨A', hA'⟩ : ∃ A' : Nat → List Int32, A' = u1 A 78 ((A 78).set i (nI (P + 8 * J + 32 * D + 65536 * 0))) := ⟨_, rfl⟩
    have hBk : BkI (ms m 49 (nI i) 0) A' e0 n0 td t := by
      rw [hA']
      exact hB'.stk hi g1 g2 g3 g4 g5 g6 (G := 0) (by omega)
    obtain ⟨M2, R2, k1, k2, k3⟩ := mkOf f3 hBk hi
    rw [f1] at k1
    cases k1
    obtain ⟨k491, k492⟩ := ms49 (m := m) (u := 0) (i := i) (by omega)
    have e2 := a_clearF f3 hi' (by rw [k491, if_pos rfl])
    refine ⟨tsV T (gNl as i) 7 0, A', ms m 49 (nI i) 0, ?_, f3, rfl, hBk, by rw [hA']; exact u1_n _ _ (by decide), fun y hy => by rw [hA']; exact u1_n _ _ (by omega)⟩
    show gd (vi (nI i) (A 78).length) (gd (vi (nI i) (A 78).length) (bS (lSet (T, A) 78 (nI i) (nI (P + 8 * J + 32 * D + 65536 * G) - 65536)) _)) = _
    rw [gd_e vii, gd_e vii, hG1, show nI (P + 8 * J + 32 * D + 65536 * 1) - 65536 = nI (P + 8 * J + 32 * D + 65536 * 0) by
      rw [i_eq, Int32.toInt_sub, nI_TT (by omega), nI_TT (by omega), show (65536 : Int32).toInt = 65536 by decide, Int.bmod_eq_of_le (by omega) (by omega)]
      omega, lSet_e (by omega), ← hA', bS_eq, if_neg one_0]
    rw [gd_e (show tK (T, A').1 0 = 12 from h.1.1), gd_e hb3, show h_13026 0 (nI i) (T, A').1 = some (tsV T (gNl as i) 7 0, M') from f2, bO_some, bS_eq, gd_e hb4]
    show bP (l_13037 0 74 77 78 (nI i) 0 (tsV T (gNl as i) 7 0, A')) _ = _
    rw [k3 0, if_pos rfl, bP_some, if_pos rfl]
    show gd (tK (tsV T (gNl as i) 7 0) 0 = 12) (gd _ (bO (h_13026 0 (nI i) (tsV T (gNl as i) 7 0)) _)) = _
    rw [gd_e f3.1.1, gd_e hb5, e2, bO_some, bS_eq, if_pos rfl]
    rfl
  · rw [if_neg d1]
    exact ac_224 h hB' hn hi hk m1 l5 l9 hb2
/-- two answers, both ways; one is accused if it can be -/
theorem l_acs (h : SInv 0 T m tx es ts as ps txs ss pd own) (hB : BkI m A e0 n0 td t) (hn : n0 = as.length) (h0 : 0 < n0) (v : Int32) : AcR T m A e0 n0 td t tx es ts as ps txs ss pd own (l_13040 0 74 77 78 79 v (T, A)) := by
  have hB' := hB
  obtain ⟨b1, ⟨b2, b2'⟩, b3, ⟨l74, l75, l76, l77, l78, l79⟩, c1, cE, c0, cQ, cA⟩ := hB
  have x1 : xg (A 79) 1 = nI n0 := by
    show xg (A 79) (nI 1) = _
    rw [xg_n (by omega), c1.2.1]
  have v1 : vi 1 (A 79).length := by rw [l79]; exact vi_n (i := 1) (by omega) (by omega)
  obtain ⟨i, hi, ei⟩ := low_n v (n := n0) h0 (by omega) T
  obtain ⟨k, hk, ek⟩ := low_n (v >>> (5 &&& 31)) (n := n0) h0 (by omega) T
  have hi' : i < as.length := by omega
  have hk' : k < as.length := by omega
  obtain ⟨s1, s2, s3, s4, s5⟩ := a_comm h hi' hk'
  have p1 := a_pL h hi'
  have p2 := a_pL h hk'
  have esum : nI ((ss i).1 5).length + nI ((ss k).1 5).length = nI (((ss i).1 5).length + ((ss k).1 5).length) := nI_pl (by omega) (by omega)
  have etwo : 2 * nI (gi (ss i) (ss k)) = nI (2 * gi (ss i) (ss k)) := by
    rw [i_eq, Int32.toInt_mul, nI_T (by omega), nI_T (by omega), show (2 : Int32).toInt = 2 by decide, Int.bmod_eq_of_le (by omega) (by omega)]
    omega
  have hF := a_commonF h (v := nI i) (w := nI n0) (fun z => by
    have := z.2.2
    rw [nI_T (by omega)] at this
    omega)
  have j97 : ∀ q : Int32, q = likS (ss i) (ss k) → AcR T m A e0 n0 td t tx es ts as ps txs ss pd own (l_13040_J97 0 74 77 78 79 v (nI i) (nI k) (nI (gi (ss i) (ss k))) (nI ((ss i).1 5).length + nI ((ss k).1 5).length) q (likS (ss i) (ss k)) 506 3116 (T, A)) := fun q hq => by
    unfold l_13040_J97
    rw [if_pos hq.symm, gd_e (show tK (T, A).1 0 = 12 from h.1.1), gd_e ⟨by decide, by decide⟩, show h_13024 0 (nI i) (nI k) (T, A).1 = some (likS (ss i) (ss k)) from a_lik h hi' hk', bP_some, gd_e (show tK (T, A).1 0 = 12 from h.1.1), gd_e ⟨by decide, by decide⟩, show h_13024 0 (nI k) (nI i) (T, A).1 = some (likS (ss k) (ss i)) from a_lik h hk' hi', bP_some, if_pos s4]
    show AcR T m A e0 n0 td t tx es ts as ps txs ss pd own (gd (vi 1 (A 79).length) (gd (tK T 0 = 12) (gd _ (bP (h_13023 0 (nI i) (xg (A 79) 1) T) _))))
    rw [gd_e v1, gd_e h.1.1, gd_e ⟨by decide, by decide⟩, x1, hF, bP_some, if_pos rfl]
    exact ac_139 h hB' hn hi hk v _ ⟨by decide, by decide⟩
  unfold l_13040
  show AcR T m A e0 n0 td t tx es ts as ps txs ss pd own (gd (vi 1 (A 79).length) (bP (h_13001 v (xg (A 79) 1) T) fun r43 => gd (vi 1 (A 79).length) (bP (h_13001 (v >>> (5 &&& 31)) (xg (A 79) 1) T) _)))
  rw [gd_e v1, x1, ei, bP_some, gd_e v1, ek, bP_some]
  rw [gd_e (show tK (T, A).1 0 = 12 from h.1.1), show h_13023 0 (nI i) (nI k) (T, A).1 = some (nI (gi (ss i) (ss k))) from a_common h hi' hk', bP_some, gd_e (show tK (T, A).1 0 = 12 from h.1.1), show h_13022 0 (nI i) (T, A).1 = some (nI ((ss i).1 5).length) from a_parts h hi', bP_some, gd_e (show tK (T, A).1 0 = 12 from h.1.1), show h_13022 0 (nI k) (T, A).1 = some (nI ((ss k).1 5).length) from a_parts h hk', bP_some, gd_e (show tK (T, A).1 0 = 12 from h.1.1), show h_13023 0 (nI k) (nI i) (T, A).1 = some (nI (gi (ss k) (ss i))) from a_common h hk' hi', bP_some, ← s1, if_pos rfl, if_neg (fun z => by
    rw [esum, etwo, i_lt, nI_T (by omega), nI_T (by omega)] at z
    omega), gd_e (show tK (T, A).1 0 = 12 from h.1.1), show h_13024 0 (nI i) (nI k) (T, A).1 = some (likS (ss i) (ss k)) from a_lik h hi' hk', bP_some]
  by_cases c : nI ((ss i).1 5).length + nI ((ss k).1 5).length = 0
  · rw [if_pos c]
    exact j97 0 (by unfold likS likV; rw [if_pos c])
  · rw [if_neg c, gd_e c]
    exact j97 _ (by unfold likS likV; rw [if_neg c])
end ACU
