/-! the law accuses -/
section ACS
variable {T T' : Tx} {m m0 m' : Mx} {tx : List Int32} {e0 n0 td i j k : Nat} {t : Nat → Nat} {A : Nat → List Int32} {v w M : Int32} {es : List Nat} {ts : Nat → List Nat} {as : List Nat} {ps : Nat → Nat} {txs : Nat → List Int32} {ss : Nat → Sx} {pd : Nat} {own : Nat → Nat}
theorem BkI.stk (hB : BkI m A e0 n0 td t) (hi : i < n0) {P J D G : Nat} (g1 : m 46 i = nI P) (g2 : P < 6) (g3 : m 47 i = nI J) (g4 : J < e0) (g5 : m 48 i = nI D) (g6 : D ≤ 500) (hG : G ≤ 1) : BkI (ms m 49 (nI i) (nI G)) (u1 A 78 ((A 78).set i (nI (P + 8 * J + 32 * D + 65536 * G)))) e0 n0 td t := by
  obtain ⟨b1, b2, b3, ⟨l74, l75, l76, l77, l78, l79⟩, c1, cE, c0, cQ, cA⟩ := hB
  have h30 := b2.2
  obtain ⟨k1, k2⟩ := ms49 (m := m) (u := nI G) (i := i) (by omega)
  have o : ∀ z, z ≠ 78 → u1 A 78 ((A 78).set i (nI (P + 8 * J + 32 * D + 65536 * G))) z = A z := fun z hz => u1_n _ _ hz
  unfold BkI BkE BkQ BkA at *
  rw [k2 0 (by decide), k2 37 (by decide), k2 38 (by decide), k2 39 (by decide), k2 40 (by decide), k2 41 (by decide), k2 42 (by decide), k2 43 (by decide), k2 44 (by decide), k2 46 (by decide), k2 47 (by decide), k2 48 (by decide), o 74 (by decide), o 75 (by decide), o 76 (by decide), o 77 (by decide), o 79 (by decide), u1_s]
  refine ⟨b1, b2, b3, ⟨l74, l75, l76, l77, by rw [List.length_set]; exact l78, l79⟩, c1, cE, c0, cQ, fun q hq => ?_⟩
  by_cases e : q = i
  · subst e
    refine ⟨P, J, D, G, g1, g2, g3, g4, g5, g6, ?_, hG, ?_⟩
    · rw [k1, if_pos rfl]
    · rw [gset (by omega)]
  · obtain ⟨P', J', D', G', q1, q2, q3, q4, q5, q6, q7, q8, q9⟩ := cA q hq
    refine ⟨P', J', D', G', q1, q2, q3, q4, q5, q6, ?_, q8, ?_⟩
    · rw [k1, if_neg e]; exact q7
    · rw [gD_set_n (fun z => e z.symm)]; exact q9
/-- what is written of an answer -/
theorem a_val {P J D G : Nat} (hP : P < 6) (hJ : J < 4) (hD : D ≤ 500) (hG : G ≤ 1) : nI (P + 8 * J + 32 * D + 65536 * G) % 8 = nI P ∧ nI (P + 8 * J + 32 * D + 65536 * G) / 8 % 4 = nI J ∧ (nI (P + 8 * J + 32 * D + 65536 * G) ≤ 65535 ↔ G = 0) ∧ ((65536 : Int32) ≤ nI (P + 8 * J + 32 * D + 65536 * G) ↔ G = 1) := by
  refine ⟨?_, ?_, ?_, ?_⟩
  · show nI (P + 8 * J + 32 * D + 65536 * G) % nI 8 = _
    rw [nI_md (by omega) (by omega) (by omega)]
    congr 1
    omega
  · show nI (P + 8 * J + 32 * D + 65536 * G) / nI 8 % nI 4 = _
    rw [nI_dv (by omega) (by omega), nI_md (by omega) (by omega) (by omega)]
    congr 1
    omega
  · rw [i_le, nI_TT (by omega), show (65535 : Int32).toInt = 65535 by decide]
    omega
  · rw [i_le, nI_TT (by omega), show (65536 : Int32).toInt = 65536 by decide]
    omega
/-- the last question -/
theorem ac_414 (h : SInv 0 T m tx es ts as ps txs ss pd own) (hn : (A 79).getD 1 0 = nI as.length) (hl : (A 79).length = 6) (l5 l6 l7 l8 l9 l10 l11 l12 l13 l14 : Int32) {bc bs : Nat} (hb : 18 ≤ bc ∧ 108 ≤ bs) : l_13040_J414 0 74 77 78 79 l5 l6 l7 l8 l9 l10 l11 l12 l13 l14 bc bs (T, A) = some ((T, A), 1) := by
  have h30 := h.2.2.2.2.1.2.1
  have x1 : xg (A 79) 1 = nI as.length := by
    show xg (A 79) (nI 1) = _
    rw [xg_n (by omega), hn]
  unfold l_13040_J414
  show gd (vi 1 (A 79).length) (gd (tK T 0 = 12) (gd _ (bO (h_13025 0 (xg (A 79) 1) 0 T) _))) = _
  rw [gd_e (by rw [hl]; exact vi_n (i := 1) (by omega) (by omega)), gd_e h.1.1, gd_e hb, x1, a_accF h (fun z => by
    have := z.1.2
    rw [nI_T (by omega)] at this
    omega), bO_some, bS_eq, if_pos rfl]
  rfl
/-- accusing, and what it tells -/
theorem ac_377 (h : SInv 0 T m tx es ts as ps txs ss pd own) (hi : i < as.length) (hk : k < as.length) (hn : (A 79).getD 1 0 = nI as.length) (hl : (A 79).length = 6) (hM : f_12098 (nI i) m = some M) {c : Int32} (hc : (c = 1 ∧ m 49 i = 0 ∧ susV m ss i k ≠ 0) ∨ (c = 0 ∧ ¬ (m 49 i = 0 ∧ susV m ss i k ≠ 0))) {J : Nat} (h47 : m 47 i = nI J) (hJ : J < 4) (l5 l8 l9 l10 l12 l13 : Int32) {bc bs : Nat} (hb : 40 ≤ bc ∧ 240 ≤ bs) :
    ∃ T' m', l_13040_J377 0 74 77 78 79 l5 (nI i) (nI k) l8 l9 l10 M l12 l13 c bc bs (T, A) = some ((T', A), 1) ∧ SInv 0 T' m' tx es ts as ps txs ss pd own ∧ tZ T' = tZ T ∧ m' = if c = 1 then ms m 49 (nI i) 1 else m := by
  have h30 := h.2.2.2.2.1.2.1
  unfold l_13040_J377
  rcases hc with ⟨c1, z1, z2⟩ | ⟨c0, z⟩
  · rcases a_acc h hi hk hM with ⟨_, _, e1, h1⟩ | ⟨w, _⟩
    · obtain ⟨k1, k2⟩ := ms49 (m := m) (u := 1) (i := i) (by omega)
      obtain ⟨j, R, p1, p2, p3, p4, p5, p6⟩ := h1.pts hi
      have f0 : f_12098 (nI i) (ms m 49 (nI i) 1) = some 0 := by
        have := f98_e (m := ms m 49 (nI i) 1) (j := J) (by rw [k2 47 (by decide)]; exact h47) (by omega) hJ p6
        rw [k1 i, if_pos rfl, if_neg (by decide)] at this
        exact this
      refine ⟨tsV T (gNl as i) 7 1, ms m 49 (nI i) 1, ?_, h1, rfl, by rw [if_pos c1]⟩
      rw [gd_e (show tK (T, A).1 0 = 12 from h.1.1), gd_e ⟨by omega, by omega⟩, show h_13025 0 (nI i) (nI k) (T, A).1 = some (tsV T (gNl as i) 7 1, M) from e1, bO_some, bS_eq, c1, if_neg one_0]
      unfold l_13040_J397
      rw [if_pos rfl, if_neg one_0]
      show gd (tK (tsV T (gNl as i) 7 1) 0 = 12) (gd _ (bP (h_13018 0 (nI i) (tsV T (gNl as i) 7 1)) _)) = _
      rw [gd_e h1.1.1, gd_e ⟨by omega, by omega⟩, a_mark h1 hi f0, bP_some, if_pos rfl]
      exact ac_414 h1 hn hl _ _ _ _ _ _ _ _ _ _ ⟨by omega, by omega⟩
    · exact absurd ⟨z1, z2⟩ w
  · rcases a_acc h hi hk hM with ⟨w1, w2, _⟩ | ⟨_, e1⟩
    · exact absurd ⟨w1, w2⟩ z
    · refine ⟨T, m, ?_, h, rfl, by rw [if_neg (show ¬ c = 1 by rw [c0]; decide)]⟩
      rw [gd_e (show tK (T, A).1 0 = 12 from h.1.1), gd_e ⟨by omega, by omega⟩, show h_13025 0 (nI i) (nI k) (T, A).1 = some (T, -1000003) from e1, bO_some, bS_eq, c0, if_pos rfl]
      unfold l_13040_J397
      rw [if_pos rfl, if_pos rfl]
      exact ac_414 h hn hl _ _ _ _ _ _ _ _ _ _ ⟨by omega, by omega⟩
end ACS
