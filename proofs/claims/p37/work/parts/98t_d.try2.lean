/-! the law tries a draft: all of it -/
section TRY2
variable {x p1 p2 : Nat} {T T' : Tx} {m m0 m' : Mx} {tx : List Int32} {n F L : Nat} {s : Sx} {a b e : Int32} {O C : List Int32} {A : Nat → List Int32}
theorem nI_sb {c d : Nat} (hc : c < 90000) (hd : d ≤ c) : nI c - nI d = nI (c - d) := by
  rw [i_eq, Int32.toInt_sub, nI_T (by omega), nI_T (by omega), nI_T (by omega), Int.bmod_eq_of_le (by omega) (by omega)]
  omega
theorem nI_l2 {G F L L2 : Nat} (hG : G ≤ 5000) (hF : F ≤ 5000) (hL : L ≤ 5000) (h : G + L = L2 + F) : (nI G - nI F) + nI L = nI L2 := by
  have e1 : (nI G - nI F).toInt = (G : Int) - F := by
    rw [Int32.toInt_sub, nI_T (by omega), nI_T (by omega), Int.bmod_eq_of_le (by omega) (by omega)]
  rw [i_eq, Int32.toInt_add, e1, nI_T (by omega), nI_T (by omega), Int.bmod_eq_of_le (by omega) (by omega)]
  omega
theorem t199 (h : Wt x m0 T tx) (hok : ∀ s0 s1, tkR s0 (tks tx) → f_5001 s0 = some s1 → s1.2 0 = 0) {G L2 : Nat} (hG : G ≤ 5000) (hF : F ≤ 5000) (hL : L ≤ 5000) (hR : RN tx G a b O C L2 e) (hg : G + L = L2 + F) (hO : O.length ≤ 8) (hC : C.length = 32) (hl1 : (A p1).length = 8) (hv1 : ∀ k, k < O.length → (A p1).getD k 0 = O.getD k 0) (hl : (A p2).length = 32) (hv : ∀ k, k < 32 → (A p2).getD k 0 = C.getD k 0) (K : Nat → Int32 → Int32 → Int32 → Int32 → Int32 → Int32 → Nat → Nat → Int32 → Int32 → Nat → Nat → Lx → Option (Lx × Int32)) (l10 : Int32) {bc bs : Nat} (hb : 82 ≤ bc ∧ 3952 ≤ bs) :
    ∃ T' bc' bs', Wt x m0 T' tx ∧ bc ≤ bc' + 82 ∧ bs ≤ bs' + 3952 ∧ l_13035_J199 K x (nI F) a b e (nI L) (nI O.length) p1 p2 1 l10 (nI G) bc bs (T, A) = K x (nI F) a b e (nI L) (nI O.length) p1 p2 1 (l10 + 1) bc' bs' (T', A) := by
  obtain ⟨⟨T1, e1, h1, t1⟩, ⟨T2, e2, h2, t2⟩⟩ := h.trial hok hO hC hG hR
  have hb1 : 42 ≤ bc ∧ 3712 ≤ bs := ⟨Nat.le_trans (by decide) hb.1, Nat.le_trans (by decide) hb.2⟩
  have hb2 : O.length + 32 ≤ bc - 42 := by omega
  have hb3 : 6 * O.length + 192 ≤ bs - 3712 := by omega
  have fin : ∀ T', Wt x m0 T' tx → TrS x T' O C L2 → ∃ bc' bs', bc ≤ bc' + 82 ∧ bs ≤ bs' + 3952 ∧ l_13035_J226 K x (nI F) a b e (nI L) (nI O.length) p1 p2 1 l10 (nI G) e (bc - 42) (bs - 3712) (T', A) = K x (nI F) a b e (nI L) (nI O.length) p1 p2 1 (l10 + 1) bc' bs' (T', A) := fun T' h' t' => by
    obtain ⟨bc', bs', g1, g2, g3⟩ := t264 (A := A) h' t' hO hl1 hv1 hl hv K (nI F) a b e (nI L) l10 (nI G) O.length 40 0 (bc - 42) (bs - 3712) (by omega) (by omega) hb2 hb3
    refine ⟨bc', bs', by omega, by omega, ?_⟩
    unfold l_13035_J226
    rw [if_pos rfl]
    show gd (tK T' x = 12) (bP (h_11013 x T') _) = _
    rw [gd_e h'.k12, (h'.outs t').2, bP_some, nI_l2 hG hF hL hg, if_pos rfl]
    show gd (tK T' x = 12) (bP (h_11011 x T') _) = _
    rw [gd_e h'.k12, (h'.outs t').1, bP_some, if_pos rfl]
    exact g3
  unfold l_13035_J199
  by_cases c : l10 = 1
  · obtain ⟨bc', bs', g1, g2, g3⟩ := fin T1 h1 t1
    refine ⟨T1, bc', bs', h1, g1, g2, ?_⟩
    rw [if_pos c, gd_e (show tK (T, A).1 x = 12 from h.k12), gd_e hb1]
    show bO (h_13006 x (nI G) a b T) _ = _
    rw [e1, bO_some, bS_eq]
    exact g3
  · obtain ⟨bc', bs', g1, g2, g3⟩ := fin T2 h2 t2
    refine ⟨T2, bc', bs', h2, g1, g2, ?_⟩
    rw [if_neg c, gd_e (show tK (T, A).1 x = 12 from h.k12), gd_e hb1]
    show bO (h_13007 x (nI G) a b T) _ = _
    rw [e2, bO_some, bS_eq]
    exact g3
theorem t351 (h : Wt x m0 T tx) (hok : ∀ s0 s1, tkR s0 (tks tx) → f_5001 s0 = some s1 → s1.2 0 = 0) (hF : F ≤ 5000) (hL : L ≤ 5000) (hO : O.length ≤ 8) (hl1 : (A p1).length = 8) (hv1 : ∀ k, k < O.length → (A p1).getD k 0 = O.getD k 0) (hless : L < F → ∃ O3 C3 : List Int32, O3.length ≤ 8 ∧ C3.length = 32 ∧ O3 <+: O ∧ RN tx (F - L - 1) a b O3 C3 0 1) (l10 : Int32) {bc bs : Nat} (hb : 60 ≤ bc ∧ 3800 ≤ bs) :
    ∃ T', Wt x m0 T' tx ∧ l_13035_J351 x (nI F) a b e (nI L) (nI O.length) p1 p2 1 l10 bc bs (T, A) = some ((T', A), 1) := by
  unfold l_13035_J351
  rw [if_neg one_0]
  by_cases c : F ≤ L
  · refine ⟨T, h, ?_⟩
    rw [if_pos ((nI_gle (by omega) (by omega)).2 c), gd_e (Or.inr rfl)]
  · obtain ⟨O3, C3, g1, g2, g3, g4⟩ := hless (by omega)
    obtain ⟨⟨T1, e1, h1, t1⟩, _⟩ := h.trial hok g1 g2 (by omega : F - L - 1 ≤ 5000) g4
    have hb1 : 42 ≤ bc ∧ 3712 ≤ bs := ⟨Nat.le_trans (by decide) hb.1, Nat.le_trans (by decide) hb.2⟩
    have hle : O3.length ≤ O.length := by
      obtain ⟨W, hW⟩ := g3
      rw [← hW, List.length_append]
      omega
    refine ⟨T1, h1, ?_⟩
    rw [if_neg (fun z => c ((nI_gle (by omega) (by omega)).1 z)), gd_e (show tK (T, A).1 x = 12 from h.k12), gd_e hb1, nI_sb (by omega) (by omega), show nI (F - L) - 1 = nI (F - L - 1) from nI_sb (d := 1) (by omega) (by omega)]
    show bO (h_13006 x (nI (F - L - 1)) a b T) _ = _
    rw [e1, bO_some, bS_eq, if_pos rfl]
    show gd (tK T1 x = 12) (bP (h_11013 x T1) _) = _
    rw [gd_e h1.k12, (h1.outs t1).2, bP_some, if_pos (show nI 0 = 0 from rfl)]
    show gd (tK T1 x = 12) (bP (h_11011 x T1) _) = _
    rw [gd_e h1.k12, (h1.outs t1).1, bP_some, if_neg (fun z => by
      rw [i_lt, nI_T (by omega), nI_T (by omega)] at z
      omega)]
    exact t404 h1 t1 hO g3 hl1 hv1 (nI F) a b e (nI L) (nI O.length) O3.length 40 0 (bc - 42) (bs - 3712) (by omega) (by omega) (by omega) (by omega)
/-- all ways -/
theorem t175 (h : Wt x m0 T tx) (hok : ∀ s0 s1, tkR s0 (tks tx) → f_5001 s0 = some s1 → s1.2 0 = 0) (hF : F ≤ 5000) (hL : L ≤ F) (hR : RN tx F a b O C L e) (hR2 : RN tx (F - L) a b O C 0 e) (hO : O.length ≤ 8) (hC : C.length = 32) (hl1 : (A p1).length = 8) (hv1 : ∀ k, k < O.length → (A p1).getD k 0 = O.getD k 0) (hl : (A p2).length = 32) (hv : ∀ k, k < 32 → (A p2).getD k 0 = C.getD k 0) (hless : L < F → ∃ O3 C3 : List Int32, O3.length ≤ 8 ∧ C3.length = 32 ∧ O3 <+: O ∧ RN tx (F - L - 1) a b O3 C3 0 1) {bc bs : Nat} (hb : 306 ≤ bc ∧ 15656 ≤ bs) :
    ∃ T', Wt x m0 T' tx ∧ l_13035_L175 40 x (nI F) a b e (nI L) (nI O.length) p1 p2 1 0 bc bs (T, A) = some ((T', A), 1) := by
  have hb0 := hb.1
  have hb0' := hb.2
  obtain ⟨T1, c1, s1, h1, g1, g1', g1''⟩ := t199 (A := A) (p1 := p1) (p2 := p2) (F := F) (L := L) h hok hF hF (by omega) hR (by omega) hO hC hl1 hv1 hl hv (l_13035_L175 39) (nI 0) (bc := bc) (bs := bs) ⟨by omega, by omega⟩
  obtain ⟨T2, c2, s2, h2, g2, g2', g2''⟩ := t199 (A := A) (p1 := p1) (p2 := p2) (F := F) (L := L) h1 hok (by omega : F - L ≤ 5000) hF (by omega) hR2 (by omega) hO hC hl1 hv1 hl hv (l_13035_L175 38) (nI 1) (bc := c1) (bs := s1) ⟨by omega, by omega⟩
  obtain ⟨T3, c3, s3, h3, g3, g3', g3''⟩ := t199 (A := A) (p1 := p1) (p2 := p2) (F := F) (L := L) h2 hok (by omega : F - L ≤ 5000) hF (by omega) hR2 (by omega) hO hC hl1 hv1 hl hv (l_13035_L175 37) (nI 2) (bc := c2) (bs := s2) ⟨by omega, by omega⟩
  obtain ⟨T4, h4, g4⟩ := t351 (A := A) (p1 := p1) (p2 := p2) (e := e) h3 hok hF (by omega : L ≤ 5000) hO hl1 hv1 hless (nI 3) (bc := c3) (bs := s3) ⟨by omega, by omega⟩
  refine ⟨T4, h4, ?_⟩
  have w0 : ∀ i : Nat, i < 3 → ¬ (3 : Int32) ≤ nI i := fun i hi z => by
    have := (nI_gle (a := 3) (by omega) (by omega)).1 z
    omega
  show l_13035_L175 (39 + 1) x (nI F) a b e (nI L) (nI O.length) p1 p2 1 (nI 0) bc bs (T, A) = _
  rw [l_13035_L175, if_neg (w0 0 (by decide)), if_neg one_0, if_pos (show nI 0 = 0 from rfl), g1'']
  show l_13035_L175 (38 + 1) x (nI F) a b e (nI L) (nI O.length) p1 p2 1 (nI 1) c1 s1 (T1, A) = _
  rw [l_13035_L175, if_neg (w0 1 (by decide)), if_neg one_0, if_neg (show ¬ nI 1 = 0 by decide), nI_sb (by omega) hL, g2'']
  show l_13035_L175 (37 + 1) x (nI F) a b e (nI L) (nI O.length) p1 p2 1 (nI 2) c2 s2 (T2, A) = _
  rw [l_13035_L175, if_neg (w0 2 (by decide)), if_neg one_0, if_neg (show ¬ nI 2 = 0 by decide), nI_sb (by omega) hL, g3'']
  show l_13035_L175 (36 + 1) x (nI F) a b e (nI L) (nI O.length) p1 p2 1 (nI 3) c3 s3 (T3, A) = _
  rw [l_13035_L175, if_pos (show (3 : Int32) ≤ nI 3 from (nI_gle (a := 3) (by omega) (by omega)).2 (Nat.le_refl _))]
  exact g4
/-- new cells behind -/
theorem Wt.tz (h : Wt x m0 T tx) {z : Nat} (hz : tZ T ≤ z) : Wt x m0 (tz T z) tx := by
  obtain ⟨m, ⟨es, ts, as, ps, txs, ss, pd, own, h, hzz⟩, hM⟩ := h
  refine ⟨m, ⟨es, ts, as, ps, txs, ss, pd, own, h.ex h.lo (h.1.of (fun _ _ _ => ⟨rfl, fun _ => rfl⟩) (fun _ _ _ _ _ _ _ _ => rfl) hz) hz (fun _ _ _ => ⟨rfl, fun _ => rfl, rfl, rfl, rfl, rfl⟩) MSn.r, Nat.le_trans hzz hz⟩, hM⟩
theorem Wt.low (h : Wt x m0 T tx) : x + 80 ≤ tZ T := by
  obtain ⟨m, ⟨es, ts, as, ps, txs, ss, pd, own, h, hzz⟩, hM⟩ := h
  exact hzz
/-- both ways to run a draft tell the same -/
theorem l_try (h : Wt x m0 T tx) (hP : PrW tx n) (hF : F ≤ 5000) (a b : Int32) : ∃ T' A', l_13035 x (nI F) a b (T, A) = some ((T', A'), 1) ∧ Wt x m0 T' tx ∧ ∀ z, z < x + 80 → A' z = A z := by
  have hn := h.len
  have hX : PrX tx n := Or.inl hP
  have hok : ∀ s0 s1, tkR s0 (tks tx) → f_5001 s0 = some s1 → s1.2 0 = 0 := fun s0 s1 a b => (hX.ok hn a b).1
  obtain ⟨O, C, L, e, he, hO, hC, hL, hR, _⟩ := h.run hok F a b hF
  obtain ⟨q1, q2, q3, q4, q5⟩ := h.less hok hF hR hL he hO hC
  obtain ⟨⟨T1, e1, h1, t1⟩, _⟩ := h.trial hok hO hC hF hR
  have low := h1.low
  -- the two arrays
  obtain ⟨z, hz⟩ : ∃ z, z = tZ T1 := ⟨_, rfl⟩
  obtain ⟨T2, hT2⟩ : ∃ T2, T2 = tz (tz T1 (z + 1)) (z + 1 + 1) := ⟨_, rfl⟩
  obtain ⟨A1, hA1⟩ : ∃ A1 : Nat → List Int32, A1 = u1 (u1 A z (List.replicate 8 0)) (z + 1) (List.replicate 32 0) := ⟨_, rfl⟩
  have h2 : Wt x m0 T2 tx := by
    rw [hT2]
    exact (h1.tz (by omega)).tz (Nat.le_succ _)
  have t2 : TrS x T2 O C L := by rw [hT2]; exact t1
  have l1 : (A1 z).length = 8 := by
    rw [hA1, u1_n _ _ (by omega), u1_s]
    rfl
  obtain ⟨V, c1, s1, v1, v2, v3, v4, v5⟩ := t121 (p1 := z) (p2 := z + 1) h2 t2 hO (nI F) a b e (nI L) 1 O.length 40 0 (((416 - 1) - 1) - 1) (((16248 - 6) - 6) - 6) A1 (by omega) (by omega) l1 (fun k hk => absurd hk (by omega)) (by omega) (by omega)
  obtain ⟨W, c2, s2, w1, w2, w3, w4, w5⟩ := t148 (p1 := z) (p2 := z + 1) h2 t2 (nI F) a b e (nI L) (nI O.length) 1 32 40 0 c1 s1 (u1 A1 z V) (by omega) (by omega) (by
    rw [u1_n _ _ (by omega), hA1, u1_s]
    rfl) (fun k hk => absurd hk (by omega)) (by omega) (by omega)
  obtain ⟨T3, h3, g3⟩ := t175 (A := u1 (u1 A1 z V) (z + 1) W) (p1 := z) (p2 := z + 1) h2 hok hF q1 hR q4 hO hC (by rw [u1_n _ _ (by omega), u1_s]; exact v1) (fun k hk => by rw [u1_n _ _ (by omega), u1_s]; exact v2 k hk) (by rw [u1_s]; exact w1) (fun k hk => by rw [u1_s]; exact w2 k hk) q5 (bc := c2) (bs := s2) ⟨by omega, by omega⟩
  refine ⟨T3, u1 (u1 A1 z V) (z + 1) W, ?_, h3, fun y hy => ?_⟩
  · have i8 : (8 : Int32).toInt = 8 := by decide
    have e79 : l_13035_J79 x (nI F) a b e (nI L) (nI O.length) z (z + 1) 416 16248 (T2, A1) = some ((T3, u1 (u1 A1 z V) (z + 1) W), 1) := by
      have r1 := h2.outAtF t2 (v := nI O.length) (by rw [nI_T (by omega)]; omega)
      have r2 := h2.outAtF t2 (v := -1) (by
        rw [show (-1 : Int32).toInt = -1 by decide]
        omega)
      have r3 := h2.celAtF
      unfold l_13035_J79
      rw [gd_e (show tK (T2, A1).1 x = 12 from h2.k12), gd_e ⟨by decide, by decide⟩]
      show bP (h_13008 x (nI O.length) T2) _ = _
      rw [r1, bP_some, if_pos rfl, gd_e (show tK (T2, A1).1 x = 12 from h2.k12), gd_e ⟨by decide, by decide⟩]
      show bP (h_13008 x (-1) T2) _ = _
      rw [r2, bP_some, if_pos rfl, gd_e (show tK (T2, A1).1 x = 12 from h2.k12), gd_e ⟨by decide, by decide⟩]
      show bP (h_13009 x 32 T2) _ = _
      rw [r3, bP_some, if_pos rfl]
      exact v5.trans (w5.trans g3)
    unfold l_13035
    rw [gd_e (show tK (T, A).1 x = 12 from h.k12), show h_13006 x (nI F) a b (T, A).1 = some (T1, e) from e1, bO_some, bS_eq]
    show gd (tK T1 x = 12) (bP (h_11013 x T1) _) = _
    rw [gd_e h1.k12, (h1.outs t1).2, bP_some]
    show gd (tK T1 x = 12) (bP (h_11011 x T1) _) = _
    rw [gd_e h1.k12, (h1.outs t1).1, bP_some, bS_eq, bS_eq]
    have eN : lNew (lNew (lT (T, A) T1) 8) 32 = (T2, A1) := by
      rw [hT2, hA1, hz]
      rfl
    rw [eN]
    have k1 : ¬ e < 0 := by rw [lt_00]; omega
    have k2 : ¬ (8 : Int32) ≤ e := by rw [i_le, i8]; omega
    have k5 : ¬ nI F < nI L := by rw [i_lt, nI_T (by omega), nI_T (by omega)]; omega
    have k7 : ¬ (9 : Int32) ≤ nI O.length := fun z => by
      have := (nI_gle (a := 9) (by omega) (by omega)).1 z
      omega
    rw [if_neg k1, if_neg k2, if_neg (nI_nn (by omega)), if_neg k5, if_neg (nI_nn (by omega)), if_neg k7]
    have ez1 : tZ (lT (T, A) T1).1 = z := hz.symm
    have ez2 : tZ (lNew (lT (T, A) T1) 8).1 = z + 1 := by rw [hz]; rfl
    rw [ez1, ez2]
    by_cases c : e = 1
    · rw [if_pos c, if_pos (show nI L = 0 by rw [q3 c]; rfl)]
      exact e79
    · rw [if_neg c]
      exact e79
  · rw [u1_n _ _ (by omega), u1_n _ _ (by omega), hA1, u1_n _ _ (by omega), u1_n _ _ (by omega)]
end TRY2
