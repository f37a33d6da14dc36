/-! the law: what the draft tells -/
section DRF
variable {x : Nat} {T T' : Tx} {m m0 m' : Mx} {tx : List Int32} {n : Nat} {s s1 : Sx}
/-- an empty text has no fault and no parts -/
theorem rd_nil (hn : tx.length ≤ 300) (ht : tkR s (tks tx)) (hs : f_5001 s = some s1) (hk : kvs tx = [(0, 0)]) : s1.2 0 = 0 ∧ (s1.1 5).length = 0 := by
  have g2 : Q1 (rdA s) 0 ((tks tx).length - 1) 0 (kvs tx) := by
    refine ⟨(rdA_Lv hn ht).1, ⟨?_, ?_⟩, fun t ht => absurd ht (Nat.not_lt_zero _)⟩
    · rw [List.drop_zero, rdA_r s (by omega), ht.1]
      unfold kvs
      rw [List.map_map]
      rfl
    · rw [List.drop_zero, rdA_r s (by omega), ht.2.1]
      unfold kvs
      rw [List.map_map]
      rfl
  rw [hk] at g2
  obtain ⟨t9, e9⟩ := acc_end g2
  have kend : au_it (0 + 1) (rdA s, 0, [], []) = .inr (99, t9) := au_it_f e9
  have hset : au_set (rdA s, 0, [], []) = (rdA s, 0, [], []) := au_set_n (by decide)
  have hL := (rdA_Lv hn ht).1
  have r0 : (rdA s).1 0 = s.1 0 := rdA_r s (by omega)
  have hp := tks_pos tx
  have h301 := tks_300 hn
  have r5 : (rdA s).1 5 = [] := rfl
  have r15 : (rdA s).1 15 = [] := rfl
  rw [rdA_e] at hs
  rcases read_loopK (G := fun _ => True) (fun _ _ _ _ => trivial) (e := (tks tx).length - 1) (sA := rdA s) (s0 := s) (r0 := s.1 0) 400 0 0 (rdA s, 0, [], []) (rdA s) 0 (by omega) (Nat.le_refl _) rfl (au_set_n (by decide)) hL rfl (by rw [← r0]; exact KI.r) (rdA_FC s) trivial with ⟨f, t, k1, s2, h1, h2, h3, h4, h5⟩ | ⟨k1, A, s2, h1, h2, h3, h4, h5, h6, h7, h8, h9⟩
  · exfalso
    have c1 := it_inr k1 _ kend
    have c2 := it_inr (0 + 1) _ h2
    rw [Nat.add_comm] at c2
    rw [c1] at c2
    cases c2
    exact h3.2.2.1.2 rfl
  · obtain ⟨t1, e1⟩ := acc_ko0 h4
    have hk : k1 = 0 := by
      rcases Nat.eq_zero_or_pos k1 with z | z
      · exact z
      · have := it_inr (k1 - (0 + 1)) _ kend
        rw [show 0 + 1 + (k1 - (0 + 1)) = k1 by omega, h2] at this
        cases this
    subst hk
    have hA : A = (rdA s, 0, [], []) := by
      have : au_it 0 (rdA s, 0, [], []) = .inl (rdA s, 0, [], []) := rfl
      rw [this] at h2
      injection h2 with h2
      exact h2.symm
    rw [hA, hset] at h3
    have e2 : s2 = rdA s := (congrArg (fun q : Au => q.1) h3).symm
    rw [h1] at hs
    have f0 : s2.2 0 = 0 := by rw [e2]; exact g2.1.1
    have e5 : s2.1 5 = [] := by rw [e2]; exact r5
    have e15 : s2.1 15 = [] := by rw [e2]; exact r15
    have ef : f_5001_J100 0 s2 = some (au_cd 17 0 s2) := by
      unfold f_5001_J100
      rw [bT]
      show bS (f_5002 (au_cd 17 0 s2)) _ = _
      rw [f5002_0 (show (au_cd 17 0 s2).2 0 = 0 from f0), bS_eq]
      unfold f_5023
      show bOv (f_5023_L2 (399 + 1) (nI 0) (au_cd 17 0 s2)) _ = _
      rw [f_5023_L2, if_pos (show nI ((au_cd 17 0 s2).1 15).length ≤ nI 0 by
        show nI (s2.1 15).length ≤ nI 0
        rw [e15]
        decide)]
      rfl
    have : f_5001_J100 (nI 0) s2 = f_5001_J100 0 s2 := rfl
    rw [ef] at hs
    cases hs
    refine ⟨f0, ?_⟩
    show (s2.1 5).length = 0
    rw [e5]
    rfl
/-- a text of n parts, or none -/
def PrX (tx : List Int32) (n : Nat) : Prop := PrW tx n ∨ tx = [] ∧ n = 0
theorem PrX.ok {s s1 : Sx} (h : PrX tx n) (hn : tx.length ≤ 300) (ht : tkR s (tks tx)) (hs : f_5001 s = some s1) : s1.2 0 = 0 ∧ (s1.1 5).length = n := by
  rcases h with h | ⟨rfl, rfl⟩
  · exact h.ok hn ht hs
  · exact rd_nil hn ht hs rfl
theorem z9001 {a b c : Nat} (e : h_9001 a b c T = some T') : tZ T' = tZ T := by
  unfold h_9001 at e
  obtain ⟨p, hp⟩ := bP_ex e
  replace e := bP_go e hp
  obtain ⟨u, hu⟩ := bP_ex e
  replace e := bP_go e hu
  have hg := gdc_c e
  rw [gdc_e hg] at e
  obtain ⟨s1, hs1⟩ := bOv_ex e
  replace e := bOv_go e hs1
  cases e
  rfl
theorem z5001 {a b c : Nat} (e : h_5001 a b c T = some T') : tZ T' = tZ T := by
  unfold h_5001 at e
  obtain ⟨p, hp⟩ := bP_ex e
  replace e := bP_go e hp
  obtain ⟨u, hu⟩ := bP_ex e
  replace e := bP_go e hu
  rw [bS_eq] at e
  have hg := gdc_c e
  rw [gdc_e hg] at e
  obtain ⟨s1, hs1⟩ := bOv_ex e
  replace e := bOv_go e hs1
  cases e
  rfl
theorem zJ31 {bc bs : Nat} (e : h_11042_J31 x bc bs T = some T') : tZ T' = tZ T := by
  unfold h_11042_J31 at e
  replace e := gd_v e
  obtain ⟨r1, h1⟩ := bP_ex e
  replace e := bP_go e h1
  replace e := gd_v e
  obtain ⟨r2, h2⟩ := bP_ex e
  replace e := bP_go e h2
  replace e := gd_v e
  obtain ⟨r3, h3⟩ := bP_ex e
  replace e := bP_go e h3
  replace e := gd_v e
  obtain ⟨T4, h4⟩ := bOv_ex e
  replace e := bOv_go e h4
  replace e := gd_v e
  obtain ⟨r5, h5⟩ := bP_ex e
  replace e := bP_go e h5
  replace e := gd_v e
  obtain ⟨r6, h6⟩ := bP_ex e
  replace e := bP_go e h6
  replace e := gd_v e
  obtain ⟨T7, h7⟩ := bOv_ex e
  replace e := bOv_go e h7
  replace e := gd_v e
  rw [bS_eq] at e
  cases e
  exact (z5001 h7).trans (z9001 h4)
/-- reading takes no cell away -/
theorem rdz (e : h_11042 x T = some T') : tZ T ≤ tZ T' := by
  unfold h_11042 at e
  replace e := gd_v e
  by_cases c : tV T x 2 = 0
  · rw [if_pos c] at e
    replace e := gd_v e
    by_cases c3 : tV T x 3 = 0
    · rw [if_pos c3] at e
      exact Nat.le_of_eq (zJ31 e).symm
    · rw [if_neg c3, bS_eq] at e
      replace e := gd_v e
      obtain ⟨T2, e1, e2, e3, e4⟩ := h4000_e (T := tNew T 5) (me := tZ T) tK_new rfl
      rw [e1, bOv_some] at e
      replace e := gd_v e
      rw [bS_eq] at e
      replace e := gd_v e
      rw [bS_eq] at e
      have := zJ31 e
      have e5 : tZ (tsV (tsW T2 x 1 (some (tZ T))) x 3 0) = tZ T2 := rfl
      omega
  · rw [if_neg c] at e
    cases e
    exact Nat.le_refl _
/-- the draft is read -/
theorem Wt.rd (h : Wt x m0 T tx) : ∃ T' pd s0 s1, h_11042 x T = some T' ∧ Wt x m0 T' tx ∧ tW T' x 1 = some pd ∧ PrgAt T' pd ∧ tkR s0 (tks tx) ∧ f_5001 s0 = some s1 ∧ PrgIs T' pd s1 ∧ tK T x = 12 ∧ tK T' x = 12 ∧ ∀ i, s1.2 0 ≠ 0 → s1.2 1 = nI i → i < (tks tx).length → (s1.1 2).getD i 0 = nI (tpl (tks tx) i) := by
  obtain ⟨m, ⟨es, ts, as, ps, txs, ss, pd, own, h, hzz⟩, hM⟩ := h
  obtain ⟨T', pd', own', g1, g2, g3⟩ := rdD h
  have hr : ReadIs T' pd' tx := by
    rcases g2.2.1.2.2.2.2.1 with w | w
    · rw [g3] at w; exact absurd w (by decide)
    · exact w.2
  obtain ⟨s0, s1, r1, r2, r3, r4⟩ := hr
  refine ⟨T', pd', s0, s1, g1, ⟨m, ⟨_, _, _, _, _, _, _, _, g2, Nat.le_trans hzz (rdz g1)⟩, hM⟩, g2.2.1.2.1, g2.2.1.2.2.1, r1, r3, r4, h.1.1, g2.1.1, fun i i0 i1 i2 => ?_⟩
  obtain ⟨T2, pd2, own2, m2, sB, k1, k2, k3, k4, k5, k6, k7, k8⟩ := rdB h
  rw [g1] at k1
  cases k1
  have ep : pd2 = pd' := by
    have := k4.2.1.2.1.symm.trans g2.2.1.2.1
    injection this
  subst ep
  rcases k8 with ⟨w1, w2, w3, w4, w5, w6⟩ | ⟨w1, _⟩
  · have e1 : sB.2 1 = s1.2 1 := k6.2.2.symm.trans r4.2.2
    rw [i1, w3] at e1
    have h301 := tks_300 g2.2.1.1.2.1
    have ei : w2 = i := (nI_eq (by omega) (by omega)).1 e1
    rw [← ei, ← w6, ← k6.1 2 (by decide), ← r4.1 2 (by decide)]
  · exact absurd ((r4.2.1.symm.trans k6.2.1).trans w1) i0
theorem Wt.fault (h : Wt x m0 T tx) {v : Int32} (hv : ∀ s0 s1, tkR s0 (tks tx) → f_5001 s0 = some s1 → s1.2 0 = v) : ∃ T', h_11006 x T = some (T', v) ∧ Wt x m0 T' tx := by
  obtain ⟨T', pd, s0, s1, g1, g2, g3, g4, g5, g6, g7, g8, g9, _⟩ := h.rd
  refine ⟨T', ?_, g2⟩
  unfold h_11006
  rw [gd_e g8, g1, bOv_some, gd_e g9, g3, bP_some, gd_e g4.1, g7.2.1, hv s0 s1 g5 g6]
theorem Wt.parts (h : Wt x m0 T tx) {k : Nat} (hv : ∀ s0 s1, tkR s0 (tks tx) → f_5001 s0 = some s1 → s1.2 0 = 0 ∧ (s1.1 5).length = k) : ∃ T', h_13005 x T = some (T', nI k) ∧ Wt x m0 T' tx := by
  obtain ⟨T', pd, s0, s1, g1, g2, g3, g4, g5, g6, g7, g8, g9, _⟩ := h.rd
  obtain ⟨v1, v2⟩ := hv s0 s1 g5 g6
  refine ⟨T', ?_, g2⟩
  have hh : h_11008 x T = some (T', .inr (nI (s1.1 5).length)) := by
    unfold h_11008
    rw [gd_e g8, g1, bOv_some, gd_e g9, g43 (hS := g9) g3 g4.1, if_pos (by rw [g7.2.1]; exact v1), bXp_some, gd_e g9, g3, bP_some, gd_e g4.1, g4004 g4 g7, bP_some]
  unfold h_13005
  rw [hh, v2]
  rfl
theorem Wt.partsF (h : Wt x m0 T tx) (hv : ∀ s0 s1, tkR s0 (tks tx) → f_5001 s0 = some s1 → s1.2 0 ≠ 0) : ∃ T', h_13005 x T = some (T', -1000003) ∧ Wt x m0 T' tx := by
  obtain ⟨T', pd, s0, s1, g1, g2, g3, g4, g5, g6, g7, g8, g9, _⟩ := h.rd
  refine ⟨T', ?_, g2⟩
  have hh : h_11008 x T = some (T', .inl 3) := by
    unfold h_11008
    rw [gd_e g8, g1, bOv_some, gd_e g9, g43 (hS := g9) g3 g4.1, if_neg (by rw [g7.2.1]; exact hv s0 s1 g5 g6)]
    rfl
  unfold h_13005
  rw [hh]
  rfl
theorem Wt.place0 (h : Wt x m0 T tx) (hv : ∀ s0 s1, tkR s0 (tks tx) → f_5001 s0 = some s1 → s1.2 0 = 0) : ∃ T', h_11007 x T = some (T', -1) ∧ Wt x m0 T' tx := by
  obtain ⟨T', pd, s0, s1, g1, g2, g3, g4, g5, g6, g7, g8, g9, _⟩ := h.rd
  refine ⟨T', ?_, g2⟩
  unfold h_11007
  rw [gd_e g8, g1, bOv_some, gd_e g9, g3, bP_some, gd_e g4.1, if_pos (by rw [g7.2.1]; exact hv s0 s1 g5 g6)]
theorem Wt.placeF (h : Wt x m0 T tx) {p : Nat} (hv : ∀ s0 s1, tkR s0 (tks tx) → f_5001 s0 = some s1 → s1.2 0 ≠ 0 ∧ ∃ i, s1.2 1 = nI i ∧ i < (tks tx).length ∧ tpl (tks tx) i = p) : ∃ T', h_11007 x T = some (T', nI p) ∧ Wt x m0 T' tx := by
  have hl := h.len
  obtain ⟨T', pd, s0, s1, g1, g2, g3, g4, g5, g6, g7, g8, g9, g10⟩ := h.rd
  obtain ⟨v1, i, v2, v3, v4⟩ := hv s0 s1 g5 g6
  refine ⟨T', ?_, g2⟩
  have hr6 : tW T' (pd + 1) 2 = some (pd + 6) := g4.2.2.2.1 2 (by decide)
  have k6 : tK T' (pd + 6) = 7 := (g4.2.2.2.2.2.1 2 (by decide)).1
  have b6 : tB T' (pd + 6) = s1.1 2 := g7.1 2 (by decide)
  have h301 := tks_300 hl
  unfold h_11007
  rw [gd_e g8, g1, bOv_some, gd_e g9, g3, bP_some, gd_e g4.1, if_neg (by rw [g7.2.1]; exact v1), gd_e g9, bP_some, gd_e g4.1, g4.2.2.1, bP_some, gd_e g4.2.1, hr6, bP_some, gd_e g9, bP_some, gd_e g4.1, gd_e k6, b6, g7.2.2, v2, xg_at (by rw [nI_T (by omega)]; omega), nI_T (by omega)]
  show some (T', (s1.1 2).getD i 0) = _
  rw [g10 i v1 v2 v3, v4]
theorem Wt.trialF (h : Wt x m0 T tx) (hv : ∀ s0 s1, tkR s0 (tks tx) → f_5001 s0 = some s1 → s1.2 0 ≠ 0) {v a b : Int32} (h0 : 0 ≤ v.toInt ∧ v.toInt ≤ 5000) : ∃ T', h_13006 x v a b T = some (T', -1000003) ∧ Wt x m0 T' tx := by
  obtain ⟨T', pd, s0, s1, g1, g2, g3, g4, g5, g6, g7, g8, g9, _⟩ := h.rd
  refine ⟨T', ?_, g2⟩
  have hh : h_11009 x v a b T = some (T', .inl 3) := by
    unfold h_11009
    rw [h36_y h0, bXp_some, gd_e g8, g1, bOv_some, gd_e g9, g43 (hS := g9) g3 g4.1, if_neg (by rw [g7.2.1]; exact hv s0 s1 g5 g6)]
    rfl
  unfold h_13006
  rw [hh]
  rfl
/-- signs are taken back -/
theorem Wt.erase (h : Wt x m0 T tx) {k : Nat} (h1 : 1 ≤ k) (h2 : k ≤ tx.length) : ∃ T', h_13003 x (nI k) T = some (T', nI (tx.length - k)) ∧ Wt x m0 T' (tx.take (tx.length - k)) := by
  obtain ⟨m, h, hM⟩ := h
  obtain ⟨o1, o2, t7'⟩ := h.ok
  have el : (tx.take (tx.length - k)).length = tx.length - k := by rw [List.length_take]; omega
  have hw := h.w (l := tx.take (tx.length - k)) (by omega) (fun c hc => o2 c (List.mem_of_mem_take hc))
  refine ⟨_, ?_, _, hw, hM.tr mtx_w⟩
  obtain ⟨es, ts, as, ps, txs, ss, pd, own, h, hzz⟩ := h
  obtain ⟨t1, t2, t3, t4, t5, t6, t7⟩ := h.text
  have ek : (nI k).toInt = k := nI_T (by omega)
  have l1 : nI k < 1 ↔ (nI k).toInt < 1 := by rw [i_lt, i_1]
  have ll : nI k ≤ nI tx.length ↔ (nI k).toInt ≤ tx.length := by rw [i_le, nI_T (by omega : tx.length < 100000)]
  have ex : xcut tx (nI (tx.length - k)) = tx.take (tx.length - k) := by
    unfold xcut
    rw [if_neg (nI_nn (by omega)), nI_C (by omega)]
  have es' : nI tx.length - nI k = nI (tx.length - k) := by
    rw [nI_subi (by omega) (by omega) (by omega), ek, Int.toNat_natCast]
  have hh : h_11003 x (nI k) T = some (tsV (tsB T (x + 1) (tx.take (tx.length - k))) x 2 0, .inr (nI (tx.length - k))) := by
    unfold h_11003
    rw [if_neg (by rw [l1]; omega), gd_e t7, t1, bP_some, gd_e t2, t4, if_pos (ll.2 (by omega)), gd_e t7, bP_some, gd_e t7, bP_some, gd_e t2, gd_e t2, t4, es', ex, bS_eq]
    rw [gd_e (show tK (tsB T (x + 1) (tx.take (tx.length - k))) x = 12 from t7), bS_eq, gd_e (show tK (tsV (tsB T (x + 1) (tx.take (tx.length - k))) x 2 0) x = 12 from t7), show tW (tsV (tsB T (x + 1) (tx.take (tx.length - k))) x 2 0) x 0 = some (x + 1) from t1, bP_some, gd_e (show tK (tsV (tsB T (x + 1) (tx.take (tx.length - k))) x 2 0) (x + 1) = 7 from t2)]
    show some (_, Sum.inr (nI (tB (tsB T (x + 1) (tx.take (tx.length - k))) (x + 1)).length)) = _
    rw [tB_s, el]
  unfold h_13003
  rw [hh]
  rfl
theorem Wt.eraseF (h : Wt x m0 T tx) {k : Nat} (h2 : tx.length < k) (hk : k < 1000) : h_13003 x (nI k) T = some (T, -1000002) := by
  obtain ⟨m, ⟨es, ts, as, ps, txs, ss, pd, own, h, hzz⟩, hM⟩ := h
  obtain ⟨t1, t2, t3, t4, t5, t6, t7⟩ := h.text
  have ek : (nI k).toInt = k := nI_T (by omega)
  have hh : h_11003 x (nI k) T = some (T, .inl 1) := by
    unfold h_11003
    by_cases c1 : nI k < 1
    · rw [if_pos c1]
    · rw [if_neg c1, gd_e t7, t1, bP_some, gd_e t2, t4, if_neg (fun w => by
        rw [i_le, nI_T (by omega : tx.length < 100000)] at w
        omega)]
  unfold h_13003
  rw [hh]
  rfl
/-- the text is wiped -/
theorem Wt.wipe (h : Wt x m0 T tx) : ∃ T', h_11002 x T = some (T', nI tx.length) ∧ Wt x m0 T' [] := by
  obtain ⟨m, h, hM⟩ := h
  have hw := h.w (l := []) (by decide) (fun c hc => by cases hc)
  refine ⟨_, ?_, _, hw, hM.tr mtx_w⟩
  obtain ⟨es, ts, as, ps, txs, ss, pd, own, h, hzz⟩ := h
  obtain ⟨t1, t2, t3, t4, t5, t6, t7⟩ := h.text
  unfold h_11002
  rw [gd_e t7, t1, bP_some, gd_e t2, gd_e t7, bP_some, gd_e t2, bS_eq, gd_e (show tK (tsB T (x + 1) []) x = 12 from t7), bS_eq, t4]
theorem Wt.lenE (h : Wt x m0 T tx) : h_11004 x T = some (nI tx.length) := by
  obtain ⟨m, h, _⟩ := h
  exact h.len
theorem Wt.k12 (h : Wt x m0 T tx) : tK T x = 12 := by
  obtain ⟨m, h, _⟩ := h
  exact h.ok.2.2
end DRF
