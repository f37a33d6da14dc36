/-! the school: an answer is handed in, the call -/
section HNC
variable {x : Nat} {T T' T0 : Tx} {m m' m1 m2 : Mx} {tx : List Int32} {es es' : List Nat} {ts ts' tsN : Nat → List Nat} {as : List Nat} {ps : Nat → Nat} {txs : Nat → List Int32} {ss : Nat → Sx} {pd : Nat} {own : Nat → Nat} {v w : Int32} {i j k a I c d : Nat} {s : Sx}
theorem hd_J25 (b : Int32) : ∃ r : Int32, (r = 0 ∨ r = 1) ∧ (r = 1 ↔ (mf m 9 = 0 ∧ ¬ 30 ≤ mf m 74)) ∧ f_12092_J25 v w b m = f_12092_J46 v w r b m := by
  unfold f_12092_J25 f_12092_J45
  by_cases c1 : mf m 9 = 0
  · rw [if_pos c1]
    by_cases c2 : 30 ≤ mf m 74
    · exact ⟨0, Or.inl rfl, ⟨fun z => absurd z (by decide), fun z => absurd c2 z.2⟩, by rw [if_pos c2]⟩
    · exact ⟨1, Or.inr rfl, ⟨fun _ => ⟨c1, c2⟩, fun _ => rfl⟩, by rw [if_neg c2]⟩
  · exact ⟨0, Or.inl rfl, ⟨fun z => absurd z (by decide), fun z => absurd z.1 c1⟩, by rw [if_neg c1]⟩
/-- what lies in the heap as the tests begin -/
theorem hd_h {e : Nat} (h : SInv x T m tx es ts as ps txs ss pd own) (hs : PrgIs T pd s) (hC : PgC s I c d) (hM : PgM s I c d m1) (ht : TkO s I) (hn : as.length < 30) :
    ∃ T32 T15, h_1000 (tZ T) v e (tV (tNew T 2) x 13) pd (tNew T 2) = some T32 ∧ tK T32 x = 12 ∧ h_11020_L67 100 x v w e (tZ T) 0 80 5414 (tsV T32 x 3 1) = h_11020_L133 100 x v w e (tZ T) 0 (80 - 2 * as.length) (5414 - 160 * as.length) T15 ∧ SInv x T15 m tx es ts as ps txs ss pd own ∧ tV T15 x 3 = 1 ∧ PrgIs T15 pd s ∧ tZ T + 7 ≤ tZ T15 ∧
      tK T15 (tZ T) = 2 ∧ (tV T15 (tZ T) 0 = v ∧ tV T15 (tZ T) 3 = tV T x 13 ∧ tV T15 (tZ T) 7 = 0) ∧ tW T15 (tZ T) 1 = some e ∧ tW T15 (tZ T) 2 = some pd ∧ (tW T15 (tZ T) 4 = some (tZ T + 1) ∧ RwAt T15 (tZ T + 1) 8 ∧ tB T15 (tZ T + 1) = []) ∧ (tW T15 (tZ T) 5 = some (tZ T + 3) ∧ RwAt T15 (tZ T + 3) 8 ∧ tB T15 (tZ T + 3) = []) ∧ tW T15 (tZ T) 6 = some (tZ T + 5) ∧ RwAt T15 (tZ T + 5) 30 ∧ (tB T15 (tZ T + 5)).length = as.length + 1 ∧ (tB T15 (tZ T + 5)).getD as.length 0 = nI (s.1 5).length ∧ ∀ k, k < as.length → (tB T15 (tZ T + 5)).getD k 0 = nI (gi s (ss k)) := by
  have lo := h.lo
  have lo' := lo
  obtain ⟨o1, o2, o3, o4⟩ := lo'
  have lp := h.2.1.2.2.2.1
  obtain ⟨T32, e1, e2, e3, e4, e5, e6, e7, ⟨e8, e9, e10⟩, ⟨e11, e12, e13⟩, e14, e15, e16⟩ := h1000_e (T := tNew T 2) (me := tZ T) (u := v) (t := tV (tNew T 2) x 13) (e := e) (p := pd) tK_new rfl (congrFun (if_pos rfl) 7)
  have g2 : ∀ y, y < tZ T → Agr T T32 y := fun y hy => (Agr.N hy).tr (e3 y hy)
  have h32 : SInv x T32 m tx es ts as ps txs ss pd own := h.ex lo (h.1.of (fun y h1 h2 => ⟨(g2 y (by omega)).1, (g2 y (by omega)).2.1⟩) (fun y f h1 h2 _ _ _ _ => by rw [(g2 y (by omega)).2.2.1]) (by omega)) (by omega) (fun y hy _ => g2 y hy) MSn.r
  have h33 := h32.hd
  have g3 : ∀ y, y ≠ x → Agr T32 (tsV T32 x 3 1) y := fun y hy => Agr.V hy
  have hs3 : PrgIs (tsV T32 x 3 1) pd s := hs.agr (fun z hz => (g2 _ (by omega)).tr (g3 _ (by omega)))
  obtain ⟨T15, k1, k2, k3, k4, k5, k6, k7, k8⟩ := hd_67 (v := v) (w := w) (e := e) h33 lo hs3 (Prt.of hC hM ht) (fun k hk => by
    obtain ⟨_, I', c', d', _, _, _, q4, q5, q6⟩ := h.rdA hk
    exact Prt.of q4 q5 q6) hn ((g3 _ (by omega)).1.trans e4) (by rw [(g3 (tZ T) (by omega)).2.2.1]; exact e14) as.length 100 0 80 5414 (tsV T32 x 3 1) (by omega) (by omega) (by omega) (by omega) (fun _ _ _ => Agr.r) (Nat.le_refl _) (by show tZ T + 7 ≤ tZ T32; omega) e15 (by show (tB T32 (tZ T + 5)).length = 0; rw [e16]; rfl) (fun k hk => absurd hk (by omega))
  have h15 : SInv x T15 m tx es ts as ps txs ss pd own := h33.ex lo (h33.1.of (fun y h1 h2 => ⟨(k2 y (by omega) (by omega)).1, (k2 y (by omega) (by omega)).2.1⟩) (fun y f h1 h2 _ _ _ _ => by rw [(k2 y (by omega) (by omega)).2.2.1]) k3) k3 (fun y hy _ => k2 y (by omega) (by omega)) MSn.r
  have gg : ∀ y, tZ T ≤ y → y < tZ T + 5 → Agr T32 T15 y := fun y h1 h2 => (g3 y (by omega)).tr (k2 y (by omega) (by omega))
  have ga := gg (tZ T) (by omega) (by omega)
  refine ⟨T32, T15, e1, h32.1.1, k1, h15, ?_, hs3.agr (fun z hz => k2 _ (by omega) (by omega)), k4, ga.1.trans e4, ⟨by rw [ga.2.2.2.2.2]; exact e5.1, ?_, by rw [ga.2.2.2.2.2]; exact e5.2.2⟩, by rw [ga.2.2.1]; exact e6, by rw [ga.2.2.1]; exact e7, ⟨by rw [ga.2.2.1]; exact e8, e9.agr (gg _ (by omega) (by omega)), (gg (tZ T + 1) (by omega) (by omega)).2.2.2.2.1.trans e10⟩, ⟨by rw [ga.2.2.1]; exact e11, e12.agr (gg _ (by omega) (by omega)), (gg (tZ T + 3) (by omega) (by omega)).2.2.2.2.1.trans e13⟩, by rw [ga.2.2.1]; exact e14, k5, k6, k7, k8⟩
  · rw [(k2 x (by omega) (by omega)).2.2.2.2.2]
    exact tV_s
  · rw [ga.2.2.2.2.2, e5.2.1]
    exact congrFun (Agr.N (T := T) (k := 2) (b := x) (by omega)).2.2.2.2.2 13
theorem c_hand (h : SInv x T m tx es ts as ps txs ss pd own) : SameT (h_11020 x v w T) (f_12092 v w m) cB (SINV x) := by
  obtain ⟨T1, pd1, own1, m1, s1, g1, g2, g3, g4, g5, g6, g7, g8⟩ := rdB h
  have hP := g4.2.1.2.2.1
  have h4 := g4.2.2.2.1.2.1
  obtain ⟨t1, t2, t3, t4, t5, t6⟩ := g4.ans
  have i30 : (30 : Int32).toInt = 30 := by decide
  by_cases c0 : (0 ≤ v.toInt ∧ v.toInt < 6) ∧ 0 ≤ w.toInt ∧ w.toInt < es.length
  · have e37 : h_11037 v T = some (.inr ()) := by rw [g37, if_pos c0.1]
    have e40 : h_11040 x w T = some (.inr (gNl es w.toInt.toNat)) := by rw [g40 h, if_pos c0.2]
    have ew := of_nI (v := w) c0.2.1 (by omega)
    obtain ⟨r, r1, r2, r3⟩ := hd_J25 (v := v) (w := w) (m := m1) 1
    have hf0 : f_12092 v w m = f_12092_J46 v w r 1 m1 := by
      unfold f_12092
      rw [g2, bOv_some, f91, if_pos c0.1, if_neg (by decide), f82 g4, if_pos c0.2, if_neg (by decide), r3]
    by_cases cf : s1.2 0 = 0
    · have e43 : h_11043 x T1 = some (.inr ()) := by rw [g43 (hS := t6) g4.2.1.2.1 hP.1, if_pos (by rw [g6.2.1]; exact cf)]
      by_cases cn : as.length < 30
      · rcases g8 with ⟨w1, _⟩ | ⟨w1, w2, w3, I, c, d, w4, w5, w6, w7⟩
        · exact absurd cf w1
        obtain ⟨n0, hn0⟩ : ∃ n0, n0 = as.length := ⟨_, rfl⟩
        obtain ⟨j, hj⟩ : ∃ j, j = w.toInt.toNat := ⟨_, rfl⟩
        rw [← hj] at ew e40
        have hJ : j < es.length := by omega
        obtain ⟨T32, T15, p1, p2, p3, p4, p5, p6, p7, q1, ⟨q2, q3, q4⟩, q5, q6, ⟨q7, q8, q9⟩, ⟨q10, q11, q12⟩, q13, q14, q15, q16, q17⟩ := hd_h (v := v) (w := w) (e := gNl es j) g4 g6 w5 w6 w7 cn
        have hr : r = 1 := r2.2 ⟨by show m1 0 9 = 0; rw [g7]; exact cf, by rw [show mf m1 74 = nI as.length from t5, i_le, nI_T (by omega), i30]; omega⟩
        obtain ⟨b1, b2, b3, b4, b5⟩ := g4.2.1.1
        obtain ⟨m5, hm5⟩ : ∃ m5, m5 = mp m1 82 0 := ⟨_, rfl⟩
        obtain ⟨m6, hm6⟩ : ∃ m6, m6 = ms m5 45 (nI n0) (nI tx.length) := ⟨_, rfl⟩
        have j5 : ∀ J, J ≠ 0 → m5 J = m1 J := fun J hJ => by rw [hm5, mp_j hJ]
        have f5 : ∀ g, g ≠ 82 → m5 0 g = m1 0 g := fun g hg => by rw [hm5, mp_n hg]
        have f6 : ∀ g, m6 0 g = m5 0 g := fun g => by rw [hm6, ms_j (by decide)]
        have j6 : ∀ J, J ≠ 45 → m6 J = m5 J := fun J hJ => by rw [hm6, ms_j hJ]
        obtain ⟨m7, y1, y2, y3, y4⟩ := hd_70 (v := v) (w := w) (m := m6) (n0 := n0) (tx := tx) (by omega) (by rw [f6, f5 74 (by decide), t5, hn0]) (by rw [f6, f5 0 (by decide)]; exact b4) b2 b3 (fun k hk => by rw [j6 1 (by decide), j5 1 (by decide)]; exact b5 k hk) tx.length 1000 0 m6 (by omega) (by omega) (fun _ _ => rfl) (fun _ _ => rfl) (fun k hk => absurd hk (by omega))
        obtain ⟨m8, hm8⟩ : ∃ m8, m8 = ms (ms (ms (ms m7 46 (nI n0) v) 47 (nI n0) w) 48 (nI n0) (m6 0 64)) 49 (nI n0) 0 := ⟨_, rfl⟩
        rw [← hm8] at y4
        have j8 : ∀ J, J < 46 ∨ 49 < J → m8 J = m7 J := fun J hJ => by rw [hm8, ms_j (by omega), ms_j (by omega), ms_j (by omega), ms_j (by omega)]
        have J8 : ∀ J, J ≠ 0 → J ≠ 2 → J < 45 ∨ 49 < J → m8 J = m1 J := fun J h0 h2 hJ => by rw [j8 J (by omega), y1 J h2, j6 J (by omega), j5 J h0]
        have F8 : ∀ g, g ≠ 82 → m8 0 g = m1 0 g := fun g hg => by rw [j8 0 (by decide), y1 0 (by decide), f6, f5 g hg]
        have a45 : ∀ i, m8 45 i = if i = n0 then nI tx.length else m1 45 i := fun i => by rw [j8 45 (by decide), y1 45 (by decide), hm6, ms_s (by omega), j5 45 (by decide)]
        have a46 : ∀ i, m8 46 i = if i = n0 then v else m1 46 i := fun i => by rw [hm8, ms_j (by decide), ms_j (by decide), ms_j (by decide), ms_s (by omega), y1 46 (by decide), j6 46 (by decide), j5 46 (by decide)]
        have a47 : ∀ i, m8 47 i = if i = n0 then w else m1 47 i := fun i => by rw [hm8, ms_j (by decide), ms_j (by decide), ms_s (by omega), ms_j (by decide), y1 47 (by decide), j6 47 (by decide), j5 47 (by decide)]
        have a48 : ∀ i, m8 48 i = if i = n0 then m6 0 64 else m1 48 i := fun i => by rw [hm8, ms_j (by decide), ms_s (by omega), ms_j (by decide), ms_j (by decide), y1 48 (by decide), j6 48 (by decide), j5 48 (by decide)]
        have a49 : ∀ i, m8 49 i = if i = n0 then 0 else m1 49 i := fun i => by rw [hm8, ms_s (by omega), ms_j (by decide), ms_j (by decide), ms_j (by decide), y1 49 (by decide), j6 49 (by decide), j5 49 (by decide)]
        have e64 : m6 0 64 = tV T1 x 13 := by rw [f6, f5 64 (by decide)]; exact g4.2.2.1.2.2.2.2.2.2.1
        have hS8 : SInv x T15 m8 tx es ts as ps txs ss pd1 own1 := p4.ex p4.lo p4.1 (Nat.le_refl _) (fun _ _ _ => Agr.r) ⟨fun J h1 h2 => J8 J (by omega) (by omega) (by omega), fun f hf => F8 f (by omega), fun i hi => ⟨fun k hk => by rw [j8 2 (by decide), y2 _ (by omega), j6 2 (by decide), j5 2 (by decide)], fun J h1 h2 => by
          rcases (show J = 45 ∨ J = 46 ∨ J = 47 ∨ J = 48 ∨ J = 49 by omega) with z | z | z | z | z <;> subst z
          · rw [a45, if_neg (by omega)]
          · rw [a46, if_neg (by omega)]
          · rw [a47, if_neg (by omega)]
          · rw [a48, if_neg (by omega)]
          · rw [a49, if_neg (by omega)], fun k hk => ⟨by rw [J8 50 (by decide) (by decide) (by decide)], by rw [J8 51 (by decide) (by decide) (by decide)]⟩⟩⟩
        have hM8 : PgM s1 I c d m8 := by
          unfold PgM at w6 ⊢
          rw [J8 4 (by decide) (by decide) (by decide), J8 5 (by decide) (by decide) (by decide), J8 6 (by decide) (by decide) (by decide), J8 7 (by decide) (by decide) (by decide), J8 8 (by decide) (by decide) (by decide), J8 14 (by decide) (by decide) (by decide), J8 15 (by decide) (by decide) (by decide), F8 14 (by decide), F8 16 (by decide)]
          exact w6
        have lo := g4.lo
        have hA : AnR x T15 m8 es (fun j' => (ts j').take 0) (tZ T1) as.length pd1 tx s1 ss := by
          refine ⟨lo.2.2.2, p7, q1, ⟨by rw [a46, if_pos hn0.symm]; exact q2, by rw [a46, if_pos hn0.symm]; exact ⟨by omega, by omega⟩⟩, ⟨q6, hS8.2.1.2.2.1, g4.2.1.2.2.2.1, p6⟩, ⟨by rw [a48, if_pos hn0.symm, e64]; exact q3, by rw [a48, if_pos hn0.symm, e64]; exact g4.2.2.1.2.2.2.2.2.2.2⟩, ⟨q7, q8, q10, q11, q13, q14⟩, ⟨by rw [a49, if_pos hn0.symm]; exact q4, Or.inl (by rw [a49, if_pos hn0.symm])⟩, ⟨cn, b2, fun k hk => (b3 _ (gD_mem hk)).ch.2, by rw [a45, if_pos hn0.symm], fun k hk => by rw [j8 2 (by decide), ← hn0]; exact y3 k hk⟩, w3, ⟨j, hJ, by rw [a47, if_pos hn0.symm]; exact ew, q5, by rw [q9]; rfl, by rw [q12]; rfl, fun k hk => ?_⟩, q15, q16, q17⟩
          exact absurd hk (Nat.not_lt_zero k)
        have t8 := (g4.2.2.2.1.2.2.2 j hJ).2.2.2.2.2.2.1
        obtain ⟨T', m', z1, z2, z3, z4⟩ := hd_L (v := v) (w := w) (s := s1) hJ cn w5 lo (ts j).length 100 1000 0 (80 - 2 * as.length) (5414 - 160 * as.length) T15 m8 (by omega) (by omega) (by omega) (by omega) (by omega) hS8 hA (by rw [a47, if_pos hn0.symm]; exact ew) hM8 p5
        have hh : h_11020 x v w T = some (T', .inr (nI as.length)) := by
          unfold h_11020
          rw [e37, bXp_some, gd_e h.1.1, e40, bXp_some, gd_e h.1.1, g1, bOv_some, gd_e t6, e43, bXp_some, gd_e t6, t1, bP_some, gd_e t2, t3, if_pos (by rw [i_lt, nI_T (by omega), i30]; omega), bS_eq]
          have an := Agr.N (T := T1) (k := 2) (b := x) (by have := lo.2.2.2; omega)
          rw [gd_e (an.1.trans t6), gd_e (an.1.trans t6), an.2.2.1, g4.2.1.2.1, bP_some, gd_e tK_new, p1, bOv_some, gd_e p2, bS_eq, p3]
          exact z1
        have hf : f_12092 v w m = some (m', nI as.length) := by
          rw [hf0, hr]
          unfold f_12092_J46
          rw [goes2 i_01 i_01, if_pos rfl, if_pos rfl, bT_eq, if_neg (by decide), ← hm5, show mf m5 74 = nI n0 by rw [show mf m5 74 = m1 0 74 from f5 74 (by decide), t5, hn0], gd_e (vi_n (by omega) (by omega)), show mf m5 0 = nI tx.length from (f5 0 (by decide)).trans b4, bS_eq, ← hm6]
          rw [show (0 : Int32) = nI 0 by decide, y4]
          rw [← ew] at z2
          exact z2
        exact ⟨_, _, _, _, hh, hf, z3, Or.inl ⟨_, rfl, by rw [z4, j8 0 (by decide), y1 0 (by decide), f6, hm5, mp_s], rfl⟩⟩
      · have hr : r = 0 := by
          rcases r1 with z | z
          · exact z
          · exact absurd ((r2.1 z).2) (fun q => q (by rw [show mf m1 74 = nI as.length from t5, i_le, nI_T (by omega), i30]; omega))
        have hh : h_11020 x v w T = some (T1, .inl 3) := by
          unfold h_11020
          rw [e37, bXp_some, gd_e h.1.1, e40, bXp_some, gd_e h.1.1, g1, bOv_some, gd_e t6, e43, bXp_some, gd_e t6, t1, bP_some, gd_e t2, t3, if_neg (by rw [i_lt, nI_T (by omega), i30]; omega)]
        have hf : f_12092 v w m = some (mp m1 82 2, 0) := by
          rw [hf0, hr]
          unfold f_12092_J46
          rw [goes2 i_01 (Or.inl rfl), if_pos rfl, if_neg (by decide), bT_eq, if_pos rfl]
        exact ⟨_, _, _, _, hh, hf, ⟨_, _, _, _, _, _, _, _, _, g4.mm m82⟩, Or.inr ⟨3, rfl, by decide, mp_s⟩⟩
    · have e43 : h_11043 x T1 = some (.inl 3) := by rw [g43 (hS := t6) g4.2.1.2.1 hP.1, if_neg (by rw [g6.2.1]; exact cf)]
      have hr : r = 0 := by
        rcases r1 with z | z
        · exact z
        · exact absurd (r2.1 z).1 (by show ¬ m1 0 9 = 0; rw [g7]; exact cf)
      have hh : h_11020 x v w T = some (T1, .inl 3) := by
        unfold h_11020
        rw [e37, bXp_some, gd_e h.1.1, e40, bXp_some, gd_e h.1.1, g1, bOv_some, gd_e t6, e43]
        rfl
      have hf : f_12092 v w m = some (mp m1 82 2, 0) := by
        rw [hf0, hr]
        unfold f_12092_J46
        rw [goes2 i_01 (Or.inl rfl), if_pos rfl, if_neg (by decide), bT_eq, if_pos rfl]
      exact ⟨_, _, _, _, hh, hf, ⟨_, _, _, _, _, _, _, _, _, g4.mm m82⟩, Or.inr ⟨3, rfl, by decide, mp_s⟩⟩
  · have hh : h_11020 x v w T = some (T, .inl 2) := by
      unfold h_11020
      by_cases c1 : 0 ≤ v.toInt ∧ v.toInt < 6
      · rw [g37, if_pos c1, bXp_some, gd_e h.1.1, g40 h, if_neg (fun q => c0 ⟨c1, q⟩)]
        rfl
      · rw [g37, if_neg c1]
        rfl
    obtain ⟨r, r1, r2, r3⟩ := hd_J25 (v := v) (w := w) (m := m1) 0
    have hf : f_12092 v w m = some (mp m1 82 1, 0) := by
      have q : f_12092_J25 v w 0 m1 = some (mp m1 82 1, 0) := by
        rw [r3]
        unfold f_12092_J46
        rw [goes2 (Or.inl rfl) r1, if_neg (by decide), bT_eq, if_pos rfl]
      unfold f_12092 f_12092_J24
      rw [g2, bOv_some, f91, f82 g4]
      by_cases c1 : 0 ≤ v.toInt ∧ v.toInt < 6
      · rw [if_pos c1, if_neg (by decide), if_neg (fun q => c0 ⟨c1, q⟩), if_pos rfl]
        exact q
      · rw [if_neg c1, if_pos rfl]
        exact q
    exact ⟨_, _, _, _, hh, hf, ⟨_, _, _, _, _, _, _, _, _, (h.mm g3).mm m82⟩, Or.inr ⟨2, rfl, by decide, mp_s⟩⟩
end HNC
