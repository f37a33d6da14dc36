/-! the law begins a draft, and goes on -/
section BEG
variable {x g : Nat} {T T' : Tx} {m m0 m' : Mx} {tx : List Int32} {n : Nat} {A : Nat → List Int32}
theorem nI_gle {a b : Nat} (ha : a < 90000) (hb : b < 90000) : nI a ≤ nI b ↔ a ≤ b := by
  rw [i_le, nI_T (by omega), nI_T (by omega)]
  omega
theorem l_J66 (h : Wt x m0 T tx) (hP : PrW tx n) (hg : (A g).length = 6) (h3 : (A g).getD 3 0 = nI n) (l2 l3 l4 l5 : Int32) {bc bs : Nat} (hb : 121 ≤ bc ∧ 11106 ≤ bs) : ∃ T', l_13034_J66 x g l2 l3 l4 l5 bc bs (T, A) = some ((T', A), 1) ∧ Wt x m0 T' tx := by
  have hn := h.len
  have hX : PrX tx n := Or.inl hP
  obtain ⟨T1, e1, h1⟩ := h.fault (v := 0) (fun s0 s1 a b => (hX.ok hn a b).1)
  obtain ⟨T2, e2, h2⟩ := h1.place0 (fun s0 s1 a b => (hX.ok hn a b).1)
  obtain ⟨T3, e3, h3'⟩ := h2.parts (k := n) (fun s0 s1 a b => hX.ok hn a b)
  refine ⟨T3, ?_, h3'⟩
  have v3 : vi 3 (A g).length := vi6 (k := 3) (by decide) hg
  unfold l_13034_J66
  rw [gd_e (show tK (T, A).1 x = 12 from h.k12), gd_e ⟨by omega, by omega⟩, show h_11006 x (T, A).1 = some (T1, 0) from e1, bO_some, bS_eq, if_pos rfl]
  show gd (tK T1 x = 12) _ = _
  rw [gd_e h1.k12, gd_e ⟨by omega, by omega⟩]
  show bO (h_11007 x T1) _ = _
  rw [e2, bO_some, bS_eq, if_pos rfl]
  show gd (tK T2 x = 12) _ = _
  rw [gd_e h2.k12, gd_e ⟨by omega, by omega⟩]
  show bO (h_13005 x T2) _ = _
  rw [e3, bO_some, bS_eq]
  show gd (vi 3 (A g).length) _ = _
  rw [gd_e v3]
  show (if nI n = xg (A g) (nI 3) then some ((T3, A), (1 : Int32)) else some ((T3, A), 0)) = _
  rw [xg_n (by omega), h3, if_pos rfl]
theorem l_L12 (l2 l3 : Int32) {M : Nat} (hM : M ≤ 3) : ∀ (q k i bc bs : Nat) (T : Tx) (A : Nat → List Int32) (tx : List Int32) (n : Nat), i + q = M → q < k → Wt x m0 T tx → PrW tx n → tx.length ≤ 277 → n ≤ tx.length → (A g).length = 6 → (A g).getD 3 0 = nI n → 121 + 96 * q ≤ bc → 11106 + 576 * q ≤ bs →
    ∃ T' tx' n', l_13034_L12 k x g l2 l3 (nI M) (nI i) bc bs (T, A) = some ((T', u1 A g ((A g).set 3 (nI n'))), 1) ∧ Wt x m0 T' tx' ∧ PrW tx' n' ∧ tx'.length ≤ 277 ∧ tx.length ≤ tx'.length ∧ n' ≤ tx'.length := by
  intro q
  induction q with
  | zero =>
    intro k i bc bs T A tx n hi hk h hP hl hn hg h3 hc hs
    obtain ⟨k, rfl⟩ : ∃ j, k = j + 1 := ⟨k - 1, by omega⟩
    obtain ⟨T', e1, h1⟩ := l_J66 (A := A) h hP hg h3 l2 l3 (nI M) (nI i) (bc := bc) (bs := bs) ⟨by omega, by omega⟩
    refine ⟨T', tx, n, ?_, h1, hP, hl, Nat.le_refl _, hn⟩
    have eA : u1 A g ((A g).set 3 (nI n)) = A := by
      funext z
      by_cases e : z = g
      · rw [e, u1_s]
        refine l_ext (by rw [List.length_set]) (fun j hj => ?_)
        by_cases e3 : j = 3
        · rw [e3, gset (by omega), h3]
        · rw [List.getD_eq_getElem?_getD, List.getElem?_set_ne (fun z => e3 z.symm), List.getD_eq_getElem?_getD]
      · exact u1_n _ _ e
    rw [l_13034_L12, if_pos ((nI_gle (by omega) (by omega)).2 (by omega)), eA]
    exact e1
  | succ q ih =>
    intro k i bc bs T A tx n hi hk h hP hl hn hg h3 hc hs
    obtain ⟨k, rfl⟩ : ∃ j, k = j + 1 := ⟨k - 1, by omega⟩
    have hc1 : 121 ≤ bc := Nat.le_trans (Nat.le_add_right _ _) hc
    have hs1 : 11106 ≤ bs := Nat.le_trans (Nat.le_add_right _ _) hs
    by_cases c : 240 ≤ tx.length
    · obtain ⟨T', e1, h1⟩ := l_J66 (A := A) h hP hg h3 l2 l3 (nI M) (nI i) (bc := bc) (bs := bs) ⟨hc1, hs1⟩
      refine ⟨T', tx, n, ?_, h1, hP, hl, Nat.le_refl _, hn⟩
      have eA : u1 A g ((A g).set 3 (nI n)) = A := by
        funext z
        by_cases e : z = g
        · rw [e, u1_s]
          refine l_ext (by rw [List.length_set]) (fun j hj => ?_)
          by_cases e3 : j = 3
          · rw [e3, gset (by omega), h3]
          · rw [List.getD_eq_getElem?_getD, List.getElem?_set_ne (fun z => e3 z.symm), List.getD_eq_getElem?_getD]
        · exact u1_n _ _ e
      rw [l_13034_L12, if_neg (fun z => by have := (nI_gle (by omega) (by omega)).1 z; omega), gd_e (show tK (T, A).1 x = 12 from h.k12), show h_11004 x (T, A).1 = some (nI tx.length) from h.lenE, bP_some, if_pos (show (240 : Int32) ≤ nI tx.length from (nI_gle (a := 240) (by omega) (by omega)).2 c), eA]
      exact e1
    · have hb1 : 96 ≤ bc ∧ 576 ≤ bs := ⟨Nat.le_trans (by decide) hc1, Nat.le_trans (by decide) hs1⟩
      obtain ⟨T1, w, k1, e1, hk1, h1, w1, w2⟩ := stm h (l2 >>> ((2 + nI i) &&& 31)) (l3 >>> (nI i &&& 31)) (by omega)
      have hs3 : xg (A g) 3 = nI n := by
        show xg (A g) (nI 3) = nI n
        rw [xg_n (by omega), h3]
      have es : nI n + nI k1 = nI (n + k1) := nI_pl (by omega) (by omega)
      have e0 : lSet (T1, A) g 3 (nI (n + k1)) = (T1, u1 A g ((A g).set 3 (nI (n + k1)))) := lSet_e (k := 3) (by decide)
      obtain ⟨T', tx', n', g1, g2, g3, g4, g5, g6⟩ := ih k (i + 1) (bc - 96) (bs - 576) T1 (u1 A g ((A g).set 3 (nI (n + k1)))) (tx ++ w) (n + k1) (by omega) (by omega) h1 (hP.app w2) (by rw [List.length_append]; omega) (by rw [List.length_append]; omega) (by rw [u1_s, List.length_set, hg]) (by rw [u1_s, gset (by omega)]) (by omega) (by omega)
      rw [u1_u1, u1_s, List.set_set] at g1
      refine ⟨T', tx', n', ?_, g2, g3, g4, by rw [List.length_append] at g5; omega, g6⟩
      have v3 : vi 3 (A g).length := vi6 (k := 3) (by decide) hg
      rw [l_13034_L12, if_neg (fun z => by have := (nI_gle (by omega) (by omega)).1 z; omega), gd_e (show tK (T, A).1 x = 12 from h.k12), show h_11004 x (T, A).1 = some (nI tx.length) from h.lenE, bP_some, if_neg (fun z => by have := (nI_gle (a := 240) (by omega) (by omega)).1 z; omega), gd_e hb1]
      show bO (h_13032 x (l2 >>> ((2 + nI i) &&& 31)) (l3 >>> (nI i &&& 31)) T) _ = _
      rw [e1, bO_some, bS_eq]
      show gd (vi 3 (A g).length) _ = _
      rw [gd_e v3]
      show gd (vi 3 (A g).length) (bS (lSet (T1, A) g 3 (xg (A g) 3 + nI k1)) _) = _
      rw [gd_e v3, hs3, es, e0, bS_eq, if_pos (show (0 : Int32) ≤ nI k1 from (nI_gle (a := 0) (by omega) (by omega)).2 (by omega)), nI_p1 (by omega)]
      exact g1
end BEG
