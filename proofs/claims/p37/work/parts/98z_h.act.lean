/-! the law: an act -/
section ACT2
variable {T T' : Tx} {m m0 m' : Mx} {tx : List Int32} {e0 n0 td i j k n l p N z : Nat} {t : Nat → Nat} {A : Nat → List Int32} {v w : Int32}
theorem PrW.pos (h : PrW tx n) : 1 ≤ n := by
  obtain ⟨q, ts, n0, ds, a1, a2, _⟩ := h
  omega
/-- the law's state between acts -/
def JI (T : Tx) (A : Nat → List Int32) (td : Nat) : Prop := ∃ m tx e0 n0 t n, Dk 0 T m tx ∧ BkI m A e0 n0 td t ∧ PrX tx n ∧ tx.length ≤ 277 ∧ n ≤ tx.length ∧ (A 79).getD 3 0 = nI n
def JR (td : Nat) (r : Option (Lx × Int32)) : Prop := ∃ T' A' td', r = some ((T', A'), 1) ∧ JI T' A' td' ∧ td' ≤ td + 4
theorem BkI.l79 (hB : BkI m A e0 n0 td t) : (A 79).length = 6 := hB.2.2.2.1.2.2.2.2.2
theorem ja_22 (h : Dk 0 T m tx) (hB : BkI m A e0 n0 td t) (x y x9 : Int32) : JR td (l_13042_J22 0 74 75 76 77 78 79 x y x9 1310 48700 (T, A)) := by
  have l79 := hB.l79
  obtain ⟨T', tx', n', g1, ⟨m', g2, gM⟩, g3, g4, g5, g6⟩ := l_beg (x := 0) (g := 79) (A := A) ⟨m, h, Mw.r⟩ y l79
  obtain ⟨A1, hA1⟩ : ∃ A1 : Nat → List Int32, A1 = u1 A 79 ((A 79).set 3 (nI n')) := ⟨_, rfl⟩
  rw [← hA1] at g1
  have o79 : A1 79 = (A 79).set 3 (nI n') := by rw [hA1, u1_s]
  have hBk : BkI m' A1 e0 n0 td t := hB.of gM (fun z h1 h2 => by rw [hA1]; exact u1_n _ _ (by omega)) (by rw [o79, List.length_set]; exact l79) (by rw [o79, gD_set_n (by decide)]) (by rw [o79, gD_set_n (by decide)]) (by rw [o79, gD_set_n (by decide)])
  refine ⟨T', A1, td, ?_, ⟨m', tx', e0, n0, t, n', g2, hBk, Or.inl g3, by omega, g6, by rw [o79, gset (by omega)]⟩, by omega⟩
  unfold l_13042_J22
  rw [gd_e ⟨by decide, by decide⟩, g1, bO_some]
theorem ja_100 (h : Dk 0 T m tx) (hB : BkI m A e0 n0 td t) (hP : PrW tx n) (hl : tx.length ≤ 277) (hn : n ≤ tx.length) (h3 : (A 79).getD 3 0 = nI n) (x y x9 : Int32) {F : Nat} (hF : F ≤ 5000) : JR td (l_13042_J100 0 74 75 76 77 78 79 x y x9 (nI F) 0 1310 48700 (T, A)) := by
  have l79 := hB.l79
  obtain ⟨a, ha, ea⟩ := low_n (y >>> (8 &&& 31)) (n := 12) (by decide) (by decide) T
  obtain ⟨b, hb, eb⟩ := low_n (x >>> (6 &&& 31)) (n := 9) (by decide) (by decide) T
  obtain ⟨T', A', g1, ⟨m', g2, gM⟩, g3⟩ := l_try (x := 0) (A := A) ⟨m, h, Mw.r⟩ hP hF (nI a - 2) (nI b)
  have hBk : BkI m' A' e0 n0 td t := hB.of gM (fun z h1 h2 => g3 z (by omega)) (by rw [g3 79 (by decide)]; exact l79) (by rw [g3 79 (by decide)]) (by rw [g3 79 (by decide)]) (by rw [g3 79 (by decide)])
  refine ⟨T', A', td, ?_, ⟨m', tx, e0, n0, t, n, g2, hBk, Or.inl hP, hl, hn, by rw [g3 79 (by decide)]; exact h3⟩, by omega⟩
  unfold l_13042_J100
  rw [show h_13001 (y >>> (8 &&& 31)) 12 (T, A).1 = some (nI a) from ea, bP_some, show h_13001 (x >>> (6 &&& 31)) 9 (T, A).1 = some (nI b) from eb, bP_some, gd_e ⟨by decide, by decide⟩, g1, bO_some, if_neg one_0]
theorem l_act (hJ : JI T A td) (htd : td + 4 ≤ 500) (x y : Int32) : JR td (l_13042 0 74 75 76 77 78 79 x y (T, A)) := by
  obtain ⟨m, tx, e0, n0, t, n, h, hB, hX, hl, hn, h3⟩ := hJ
  have l79 := hB.l79
  have k12 : tK T 0 = 12 := h.ok.2.2
  obtain ⟨q, hq, eq⟩ := low_n x (n := 20) (by decide) (by decide) T
  unfold l_13042
  rw [show h_13001 x 20 (T, A).1 = some (nI q) from eq, bP_some, gd_e (show tK (T, A).1 0 = 12 from k12), show h_11004 0 (T, A).1 = some (nI tx.length) from h.len, bP_some]
  by_cases c0 : tx.length = 0
  · rw [if_pos (show nI tx.length = 0 by rw [c0]; rfl)]
    exact ja_22 h hB x y _
  rw [if_neg (show ¬ nI tx.length = 0 from fun z => c0 ((nI_eq (b := 0) (by omega) (by omega)).1 z))]
  have hP : PrW tx n := by
    rcases hX with z | ⟨z, _⟩
    · exact z
    · rw [z] at c0
      exact absurd rfl c0
  have ge : ∀ a, a < 1000 → ((nI a ≤ nI q) ↔ a ≤ q) := fun a ha => nI_gle (by omega) (by omega)
  by_cases c2 : 2 ≤ q
  · rw [if_pos (show (2 : Int32) ≤ nI q from (ge 2 (by decide)).2 c2)]
    by_cases c7 : 7 ≤ q
    · rw [if_pos (show (7 : Int32) ≤ nI q from (ge 7 (by decide)).2 c7)]
      by_cases c10 : 10 ≤ q
      · rw [if_pos (show (10 : Int32) ≤ nI q from (ge 10 (by decide)).2 c10)]
        by_cases d10 : q = 10
        · rw [if_pos (show nI q = 10 by rw [d10]; rfl)]
          obtain ⟨T', g1, ⟨m', g2, gM⟩⟩ := l_spo (x := 0) (g := 79) (A := A) (e0 := e0) (m0 := m) ⟨m, h, Mw.r⟩ hP l79 h3 hB.2.2.2.2.1.1 hB.1.1 hB.1.2 hl (x >>> (5 &&& 31)) y
          refine ⟨T', A, td, by rw [g1, bO_some], ⟨m', tx, e0, n0, t, n, g2, hB.of gM (fun _ _ _ => rfl) l79 rfl rfl rfl, Or.inl hP, hl, hn, h3⟩, by omega⟩
        · rw [if_neg (show ¬ nI q = 10 from fun z => d10 ((nI_eq (b := 10) (by omega) (by omega)).1 z))]
          obtain ⟨es, ts, as, ps, txs, ss, pd, own, hS, hz⟩ := h
          obtain ⟨T', A', m', e1, n1, td1, t1, g1, g2, g3, g4, g5⟩ := l_sch hS (by omega) hB hP ⟨hP.pos, by omega⟩ h3 htd (x >>> (5 &&& 31)) y
          exact ⟨T', A', td1, by rw [g1, bO_some], ⟨m', tx, e1, n1, t1, n, g2, g3, Or.inl hP, hl, hn, g4.trans h3⟩, g5⟩
      · rw [if_neg (show ¬ (10 : Int32) ≤ nI q from fun z => c10 ((ge 10 (by decide)).1 z))]
        have v5 : vi 5 (A 79).length := by rw [l79]; exact vi_n (i := 5) (by omega) (by omega)
        obtain ⟨V, hV⟩ : ∃ V, V = xg (A 79) 5 + 1 := ⟨_, rfl⟩
        obtain ⟨A1, hA1⟩ : ∃ A1 : Nat → List Int32, A1 = u1 A 79 ((A 79).set 5 V) := ⟨_, rfl⟩
        have o79 : A1 79 = (A 79).set 5 V := by rw [hA1, u1_s]
        have l79' : (A1 79).length = 6 := by rw [o79, List.length_set]; exact l79
        have v5' : vi 5 (A1 79).length := by rw [l79']; exact vi_n (i := 5) (by omega) (by omega)
        have hBk : BkI m A1 e0 n0 td t := hB.of Mw.id (fun z h1 h2 => by rw [hA1]; exact u1_n _ _ (by omega)) l79' (by rw [o79, gD_set_n (by decide)]) (by rw [o79, gD_set_n (by decide)]) (by rw [o79, gD_set_n (by decide)])
        have h3' : (A1 79).getD 3 0 = nI n := by rw [o79, gD_set_n (by decide)]; exact h3
        show JR td (gd (vi 5 (A 79).length) (gd (vi 5 (A 79).length) (bS (lSet (T, A) 79 5 (xg (A 79) 5 + 1)) _)))
        rw [gd_e v5, gd_e v5, ← hV, show lSet (T, A) 79 5 V = (T, A1) by rw [hA1]; exact lSet_e (g := 79) (k := 5) (by decide), bS_eq]
        show JR td (gd (vi 5 (A1 79).length) (if 30 < xg (A1 79) 5 then some ((T, A1), 1) else bP (h_13001 y 3 T) fun r17 => if r17 = 0 then l_13042_J100 0 74 75 76 77 78 79 x y (nI q) 200 0 1310 48700 (T, A1) else bP (h_13001 (y >>> (2 &&& 31)) 60 T) fun r19 => l_13042_J100 0 74 75 76 77 78 79 x y (nI q) r19 0 1310 48700 (T, A1)))
        rw [gd_e v5']
        by_cases c30 : 30 < xg (A1 79) 5
        · rw [if_pos c30]
          exact ⟨T, A1, td, rfl, ⟨m, tx, e0, n0, t, n, h, hBk, Or.inl hP, hl, hn, h3'⟩, by omega⟩
        · obtain ⟨a, ha, ea⟩ := low_n y (n := 3) (by decide) (by decide) T
          obtain ⟨b, hb, eb⟩ := low_n (y >>> (2 &&& 31)) (n := 60) (by decide) (by decide) T
          rw [if_neg c30, show h_13001 y 3 T = some (nI a) from ea, bP_some]
          by_cases ca : nI a = 0
          · rw [if_pos ca]
            exact ja_100 h hBk hP hl hn h3' x y _ (F := 200) (by decide)
          · rw [if_neg ca, show h_13001 (y >>> (2 &&& 31)) 60 T = some (nI b) from eb, bP_some]
            exact ja_100 h hBk hP hl hn h3' x y _ (by omega)
    · rw [if_neg (show ¬ (7 : Int32) ≤ nI q from fun z => c7 ((ge 7 (by decide)).1 z))]
      obtain ⟨T', tx', n', g1, ⟨m', g2, gM⟩, g3, g4, g5, g6⟩ := l_go (x := 0) (g := 79) (A := A) (m0 := m) ⟨m, h, Mw.r⟩ hP hl hn (x >>> (5 &&& 31)) y l79 h3
      obtain ⟨A1, hA1⟩ : ∃ A1 : Nat → List Int32, A1 = u1 A 79 ((A 79).set 3 (nI n')) := ⟨_, rfl⟩
      rw [← hA1] at g1
      have o79 : A1 79 = (A 79).set 3 (nI n') := by rw [hA1, u1_s]
      have hBk : BkI m' A1 e0 n0 td t := hB.of gM (fun z h1 h2 => by rw [hA1]; exact u1_n _ _ (by omega)) (by rw [o79, List.length_set]; exact l79) (by rw [o79, gD_set_n (by decide)]) (by rw [o79, gD_set_n (by decide)]) (by rw [o79, gD_set_n (by decide)])
      exact ⟨T', A1, td, by rw [g1, bO_some], ⟨m', tx', e0, n0, t, n', g2, hBk, Or.inl g3, g4, g6, by rw [o79, gset (by omega)]⟩, by omega⟩
  · rw [if_neg (show ¬ (2 : Int32) ≤ nI q from fun z => c2 ((ge 2 (by decide)).1 z))]
    exact ja_22 h hB x y _
/-- the marks, between acts -/
theorem j_ism (hJ : JI T A td) (v : Int32) (h0 : (A 79).getD 0 0 ≠ 0) : ∃ T', l_13038 0 74 77 78 79 v (T, A) = some ((T', A), 1) ∧ JI T' A td := by
  obtain ⟨m, tx, e0, n0, t, n, ⟨es, ts, as, ps, txs, ss, pd, own, hS, hz⟩, hB, hX, hl, hn, h3⟩ := hJ
  obtain ⟨en, ee, et⟩ := hB.en hS
  have he : 0 < e0 := by
    rcases Nat.eq_zero_or_pos e0 with z | z
    · exfalso
      apply h0
      rw [hB.2.2.2.2.1.1, z]
      rfl
    · exact z
  obtain ⟨T', g1, g2, g3⟩ := l_ism hS hB en he v
  exact ⟨T', g1, m, tx, e0, n0, t, n, ⟨es, ts, as, ps, txs, ss, pd, own, g2, by omega⟩, hB, hX, hl, hn, h3⟩
end ACT2
