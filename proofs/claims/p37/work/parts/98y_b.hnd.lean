/-! the school: an answer is handed in, once more, with what changes -/
section HN2
variable {x : Nat} {T T' T0 : Tx} {m m' m1 m2 : Mx} {tx : List Int32} {es es' : List Nat} {ts ts' tsN : Nat → List Nat} {as : List Nat} {ps : Nat → Nat} {txs : Nat → List Int32} {ss : Nat → Sx} {pd : Nat} {own : Nat → Nat} {v w : Int32} {i j k a I c d : Nat} {s : Sx}
/-- what a run of the reference changes -/
def HF (m m' : Mx) : Prop := (∀ J, J ≠ 0 → J < 30 ∨ 34 < J → J ≠ 50 → J ≠ 51 → m' J = m J) ∧ ∀ g, g = 0 ∨ g = 64 ∨ g = 65 → m' 0 g = m 0 g
/-- what a new answer changes -/
def HdM (m m' : Mx) (n0 : Nat) (v : Int32) (j : Nat) (tx : List Int32) : Prop :=
  (m' 0 74 = nI (n0 + 1) ∧ ∀ g, g = 0 ∨ g = 64 ∨ g = 65 → m' 0 g = m 0 g) ∧ m' 1 = m 1 ∧ (∀ J, 37 ≤ J → J ≤ 44 → m' J = m J) ∧ (∀ i, m' 46 i = if i = n0 then v else m 46 i) ∧ (∀ i, m' 47 i = if i = n0 then nI j else m 47 i) ∧ (∀ i, m' 48 i = if i = n0 then m 0 64 else m 48 i) ∧ (∀ i, m' 49 i = if i = n0 then 0 else m 49 i) ∧ m' 45 n0 = nI tx.length ∧ ∀ k, k < tx.length → m' 2 (300 * n0 + k) = tx.getD k 0
theorem hd_L2 (hj : j < es.length) (hn : as.length < 30) (hC : PgC s I c d) (lo : Lo x es ts as ps pd a) : ∀ (q n n' l bc bs : Nat) (T : Tx) (m : Mx), l + q = (ts j).length → q < n → q < n' → q + 1 ≤ bc → 6 * q + 40 ≤ bs → SInv x T m tx es ts as ps txs ss pd own → AnR x T m es (fun j' => (ts j').take l) a as.length pd tx s ss → m 47 as.length = nI j → PgM s I c d m → tV T x 3 = 1 →
    ∃ T' m', h_11020_L133 n x v w (gNl es j) a (nI l) bc bs T = some (T', .inr (nI as.length)) ∧ SINV x T' m' ∧ HF m m' ∧ m' 0 74 = nI (as.length + 1) ∧ tZ T ≤ tZ T' := by
  have lo' := lo
  obtain ⟨o1, o2, o3, o4⟩ := lo
  intro q
  induction q with
  | zero =>
    intro n n' l bc bs T m hl hq hq' hb hb' h hA h47 hM h3
    obtain ⟨n, rfl⟩ : ∃ q, n = q + 1 := ⟨n - 1, by omega⟩
    obtain ⟨n', rfl⟩ : ∃ q, n' = q + 1 := ⟨n' - 1, by omega⟩
    have h4 := h.2.2.2.1.2.1
    have hE := h.2.2.2.1.2.2.2 j hj
    have t8 := hE.2.2.2.2.2.2.1
    obtain ⟨t1, t2, t3, t4, t5, t6⟩ := h.ans
    have cc : nI (ts j).length ≤ nI l := (nI_le' (by omega) (by omega)).2 (by omega)
    have hA' : AnR x T m es ts a as.length pd tx s ss := hA.rx (fun _ _ => rfl) (fun _ _ _ => rfl) (fun j' hj' hq => ⟨hj', rfl, by
      have : j' = j := by
        have := hq.symm.trans h47
        rw [nI_eq (by omega) (by omega)] at this
        exact this
      subst this
      exact (List.take_of_length_le (by omega)).symm, rfl, fun _ _ => ⟨rfl, rfl, rfl, rfl, rfl, rfl, rfl⟩⟩) (fun _ _ => rfl)
    have e74 : mf m 74 = nI as.length := t5
    have hS := h.hnd (m' := mp m 74 (nI (as.length + 1))) lo' hA' hn h3 mp_s (fun g hg => mp_n hg) (fun J hJ => mp_j hJ)
    refine ⟨_, _, ?_, hS, ⟨fun J h0 _ _ _ => mp_j h0, fun g hg => mp_n (by omega)⟩, mp_s, tZ_add⟩
    rw [h_11020_L133, gd_e hE.2.2.1, g2002 hE, bP_some, if_pos cc, gd_e t6, t1, bP_some, gd_e t2, gd_e ⟨by rw [t3]; omega, by rw [hA.2.2.1]; decide⟩, gd_e ⟨by omega, by omega⟩, bS_eq, gd_e (show tK (tAdd T (x + 69) a) x = 12 from t6), show tW (tAdd T (x + 69) a) x 10 = some (x + 69) from t1, bP_some, gd_e (show tK (tAdd T (x + 69) a) (x + 69) = 1 from t2), tA_s, t3, List.length_append]
    show some (tAdd T (x + 69) a, Sum.inr (nI (as.length + 1) - 1)) = _
    rw [nI_pp (by omega)]
  | succ q ih =>
    intro n n' l bc bs T m hl hq hq' hb hb' h hA h47 hM h3
    obtain ⟨n, rfl⟩ : ∃ q, n = q + 1 := ⟨n - 1, by omega⟩
    obtain ⟨n', rfl⟩ : ∃ q, n' = q + 1 := ⟨n' - 1, by omega⟩
    have h4 := h.2.2.2.1.2.1
    have hE := h.2.2.2.1.2.2.2 j hj
    have t8 := hE.2.2.2.2.2.2.1
    obtain ⟨t1, t2, t3, t4, t5, t6⟩ := h.ans
    have cc : ¬ nI (ts j).length ≤ nI l := fun z => by have := (nI_le' (by omega) (by omega)).1 z; omega
    have hT := hE.2.2.2.2.2.2.2.2.2.2.2.2.2 l (by omega)
    have lt := (o1 j hj).2 l (by omega)
    obtain ⟨T1, m1, p1, p2, p3, p4, p5, p6, p7, p8, p9, p10, p11⟩ := hA.stp (ts' := fun j' => (ts j').take (l + 1)) (m1 := m) (k := l) h.1 hj h4 h47 (take_l (by omega)) (by omega) (take_l (by omega)) ⟨hE.2.2.1, hE.2.2.2.2.2.2.2.2.1, hE.2.2.2.2.2.2.2.2.2.1⟩ hT.2 hT.1 (by omega) (fun z hz => ⟨by omega, by omega⟩) hC hM (fun _ _ => rfl)
    have hS : SInv x T1 m1 tx es ts as ps txs ss pd own := h.ex lo' p4 (by omega) (fun y hy hy' => p6 y hy' (by omega) (by omega)) ⟨fun J h1 h2 => p9 J (by omega) (by omega) (by omega) (by omega), fun f hf => p10 f (by omega) (by omega) (by omega) (by omega) (by omega) (by omega), fun i hi => ⟨fun k hk => by rw [p9 2 (by decide) (by decide) (by decide) (by decide)], fun J h1 h2 => by rw [p9 J (by omega) (by omega) (by omega) (by omega)], fun k hk => ⟨p7 _ (by omega), p8 _ (by omega)⟩⟩⟩
    obtain ⟨T', m', k1, k3, k4, k5, k6⟩ := ih n n' (l + 1) (bc - 1) (bs - 6) T1 m1 (by omega) (by omega) (by omega) (by omega) (by omega) hS p3 (by rw [p9 47 (by decide) (by decide) (by decide) (by decide)]; exact h47) p11 (by rw [(p6 x (by omega) (by have := hA.1; omega) (by have := hA.1; omega)).2.2.2.2.2]; exact h3)
    have hg : h_11041 (gNl es j) (nI l) T = some (.inr (gNl (ts j) l)) := by
      rw [g41 hE, if_pos ⟨by rw [nI_T (by omega)]; omega, by rw [nI_T (by omega)]; omega⟩, nI_T (by omega)]
      rfl
    refine ⟨T', m', ?_, k3, ⟨fun J h0 h1 h2 h3 => (k4.1 J h0 h1 h2 h3).trans (p9 J h0 h1 h2 h3), fun g hg => (k4.2 g hg).trans (p10 g (by omega) (by omega) (by omega) (by omega) (by omega) (by omega))⟩, k5, by omega⟩
    rw [h_11020_L133, gd_e hE.2.2.1, g2002 hE, bP_some, if_neg cc, gd_e ⟨by omega, by omega⟩, hg, bXp_some, gd_e t6, p1, bOv_some, nI_p1 (by omega)]
    exact k1
theorem c_hand2 (h : SInv x T m tx es ts as ps txs ss pd own) (hok : ∀ s0 s1, tkR s0 (tks tx) → f_5001 s0 = some s1 → s1.2 0 = 0) (hv : 0 ≤ v.toInt ∧ v.toInt < 6) (hJ : j < es.length) (cn : as.length < 30) : ∃ T' m', h_11020 x v (nI j) T = some (T', .inr (nI as.length)) ∧ SINV x T' m' ∧ tZ T ≤ tZ T' ∧ HdM m m' as.length v j tx := by
  obtain ⟨T1, pd1, own1, m1, s1, g1, g2, g3, g4, g5, g6, g7, g8⟩ := rdB h
  have hP := g4.2.1.2.2.1
  have h4 := g4.2.2.2.1.2.1
  obtain ⟨t1, t2, t3, t4, t5, t6⟩ := g4.ans
  have i30 : (30 : Int32).toInt = 30 := by decide
  have cf : s1.2 0 = 0 := by
    rcases g4.2.1.2.2.2.2.1 with w | ⟨_, s0, s2, r1, _, r3, r4⟩
    · rw [g5] at w; exact absurd w (by decide)
    · exact (g6.2.1.symm.trans r4.2.1).trans (hok s0 s2 r1 r3)
  have ejT : (nI j).toInt = j := nI_T (by omega)
  have e37 : h_11037 v T = some (.inr ()) := by rw [g37, if_pos hv]
  have e40 : h_11040 x (nI j) T = some (.inr (gNl es j)) := by rw [g40 h, if_pos (by omega), ejT, Int.toNat_natCast]
  have e43 : h_11043 x T1 = some (.inr ()) := by rw [g43 (hS := t6) g4.2.1.2.1 hP.1, if_pos (by rw [g6.2.1]; exact cf)]
  rcases g8 with ⟨w1, _⟩ | ⟨w1, w2, w3, I, c, d, w4, w5, w6, w7⟩
  · exact absurd cf w1
  obtain ⟨n0, hn0⟩ : ∃ n0, n0 = as.length := ⟨_, rfl⟩
  obtain ⟨w, ew⟩ : ∃ w, w = nI j := ⟨_, rfl⟩
  obtain ⟨T32, T15, p1, p2, p3, p4, p5, p6, p7, q1, ⟨q2, q3, q4⟩, q5, q6, ⟨q7, q8, q9⟩, ⟨q10, q11, q12⟩, q13, q14, q15, q16, q17⟩ := hd_h (v := v) (w := w) (e := gNl es j) g4 g6 w5 w6 w7 cn
  obtain ⟨b1, b2, b3, b4, b5⟩ := g4.2.1.1
  obtain ⟨m5, hm5⟩ : ∃ m5, m5 = mp m1 82 0 := ⟨_, rfl⟩
  obtain ⟨m6, hm6⟩ : ∃ m6, m6 = ms m5 45 (nI n0) (nI tx.length) := ⟨_, rfl⟩
  have j5 : ∀ J, J ≠ 0 → m5 J = m1 J := fun J hJ => by rw [hm5, mp_j hJ]
  have f5 : ∀ g, g ≠ 82 → m5 0 g = m1 0 g := fun g hg => by rw [hm5, mp_n hg]
  have f6 : ∀ g, m6 0 g = m5 0 g := fun g => by rw [hm6, ms_j (by decide)]
  have j6 : ∀ J, J ≠ 45 → m6 J = m5 J := fun J hJ => by rw [hm6, ms_j hJ]
  obtain ⟨m7, y1, y2, y3, y4⟩ := hd_70 (v := v) (w := w) (m := m6) (n0 := n0) (tx := tx) (by omega) (by rw [f6, f5 74 (by decide), t5, hn0]) (by rw [f6, f5 0 (by decide)]; exact b4) b2 b3 (fun k hk => by rw [j6 1 (by decide), j5 1 (by decide)]; exact b5 k hk) tx.length 1000 0 m6 (by omega) (by omega) (fun _ _ => rfl) (fun _ _ => rfl) (fun k hk => absurd hk (by omega))
  obtain ⟨m8, hm8⟩ : ∃ m8, m8 = ms (ms (ms (ms m7 46 (nI n0) v) 47 (nI n0) w) 48 (nI n0) (m6 0 64)) 49 (nI n0) 0 := ⟨_, rfl⟩
  rw [← hm8] at y4
  have j8 : ∀ J, J < 46 ∨ 49 < J → m8 J = m7 J := fun J hJ => by rw [hm8, ms_j (by omega), ms_j (by omega), ms_j (by omega), ms_j (by omega)]
  have J8 : ∀ J, J ≠ 0 → J ≠ 2 → J < 45 ∨ 49 < J → m8 J = m1 J := fun J h0 h2 hJ => by rw [j8 J (by omega), y1 J h2, j6 J (by omega), j5 J h0]
  have F8 : ∀ g, g ≠ 82 → m8 0 g = m1 0 g := fun g hg => by rw [j8 0 (by decide), y1 0 (by decide), f6, f5 g hg]
  have a45 : ∀ i, m8 45 i = if i = n0 then nI tx.length else m1 45 i := fun i => by rw [j8 45 (by decide), y1 45 (by decide), hm6, ms_s (by omega), j5 45 (by decide)]
  have a46 : ∀ i, m8 46 i = if i = n0 then v else m1 46 i := fun i => by rw [hm8, ms_j (by decide), ms_j (by decide), ms_j (by decide), ms_s (by omega), y1 46 (by decide), j6 46 (by decide), j5 46 (by decide)]
  have a47 : ∀ i, m8 47 i = if i = n0 then w else m1 47 i := fun i => by rw [hm8, ms_j (by decide), ms_j (by decide), ms_s (by omega), ms_j (by decide), y1 47 (by decide), j6 47 (by decide), j5 47 (by decide)]
  have a48 : ∀ i, m8 48 i = if i = n0 then m6 0 64 else m1 48 i := fun i => by rw [hm8, ms_j (by decide), ms_s (by omega), ms_j (by decide), ms_j (by decide), y1 48 (by decide), j6 48 (by decide), j5 48 (by decide)]
  have a49 : ∀ i, m8 49 i = if i = n0 then 0 else m1 49 i := fun i => by rw [hm8, ms_s (by omega), ms_j (by decide), ms_j (by decide), ms_j (by decide), y1 49 (by decide), j6 49 (by decide), j5 49 (by decide)]
  have e64 : m6 0 64 = tV T1 x 13 := by rw [f6, f5 64 (by decide)]; exact g4.2.2.1.2.2.2.2.2.2.1
  have hS8 : SInv x T15 m8 tx es ts as ps txs ss pd1 own1 := p4.ex p4.lo p4.1 (Nat.le_refl _) (fun _ _ _ => Agr.r) ⟨fun J h1 h2 => J8 J (by omega) (by omega) (by omega), fun f hf => F8 f (by omega), fun i hi => ⟨fun k hk => by rw [j8 2 (by decide), y2 _ (by omega), j6 2 (by decide), j5 2 (by decide)], fun J h1 h2 => by
    rcases (show J = 45 ∨ J = 46 ∨ J = 47 ∨ J = 48 ∨ J = 49 by omega) with z | z | z | z | z <;> subst z
    · rw [a45, if_neg (by omega)]
    · rw [a46, if_neg (by omega)]
    · rw [a47, if_neg (by omega)]
    · rw [a48, if_neg (by omega)]
    · rw [a49, if_neg (by omega)], fun k hk => ⟨by rw [J8 50 (by decide) (by decide) (by decide)], by rw [J8 51 (by decide) (by decide) (by decide)]⟩⟩⟩
  have hM8 : PgM s1 I c d m8 := by
    unfold PgM at w6 ⊢
    rw [J8 4 (by decide) (by decide) (by decide), J8 5 (by decide) (by decide) (by decide), J8 6 (by decide) (by decide) (by decide), J8 7 (by decide) (by decide) (by decide), J8 8 (by decide) (by decide) (by decide), J8 14 (by decide) (by decide) (by decide), J8 15 (by decide) (by decide) (by decide), F8 14 (by decide), F8 16 (by decide)]
    exact w6
  have lo := g4.lo
  have hA : AnR x T15 m8 es (fun j' => (ts j').take 0) (tZ T1) as.length pd1 tx s1 ss := by
    refine ⟨lo.2.2.2, p7, q1, ⟨by rw [a46, if_pos hn0.symm]; exact q2, by rw [a46, if_pos hn0.symm]; exact ⟨by omega, by omega⟩⟩, ⟨q6, hS8.2.1.2.2.1, g4.2.1.2.2.2.1, p6⟩, ⟨by rw [a48, if_pos hn0.symm, e64]; exact q3, by rw [a48, if_pos hn0.symm, e64]; exact g4.2.2.1.2.2.2.2.2.2.2⟩, ⟨q7, q8, q10, q11, q13, q14⟩, ⟨by rw [a49, if_pos hn0.symm]; exact q4, Or.inl (by rw [a49, if_pos hn0.symm])⟩, ⟨cn, b2, fun k hk => (b3 _ (gD_mem hk)).ch.2, by rw [a45, if_pos hn0.symm], fun k hk => by rw [j8 2 (by decide), ← hn0]; exact y3 k hk⟩, w3, ⟨j, hJ, by rw [a47, if_pos hn0.symm]; exact ew, q5, by rw [q9]; rfl, by rw [q12]; rfl, fun k hk => ?_⟩, q15, q16, q17⟩
    exact absurd hk (Nat.not_lt_zero k)
  have t8 := (g4.2.2.2.1.2.2.2 j hJ).2.2.2.2.2.2.1
  obtain ⟨T', m', z1, z3, z4, z5, z6⟩ := hd_L2 (v := v) (w := w) (s := s1) hJ cn w5 lo (ts j).length 100 1000 0 (80 - 2 * as.length) (5414 - 160 * as.length) T15 m8 (by omega) (by omega) (by omega) (by omega) (by omega) hS8 hA (by rw [a47, if_pos hn0.symm]; exact ew) hM8 p5
  have hh : h_11020 x v (nI j) T = some (T', .inr (nI as.length)) := by
    unfold h_11020
    rw [e37, bXp_some, gd_e h.1.1, e40, bXp_some, gd_e h.1.1, g1, bOv_some, gd_e t6, e43, bXp_some, gd_e t6, t1, bP_some, gd_e t2, t3, if_pos (by rw [i_lt, nI_T (by omega), i30]; omega), bS_eq]
    have an := Agr.N (T := T1) (k := 2) (b := x) (by have := lo.2.2.2; omega)
    rw [gd_e (an.1.trans t6), gd_e (an.1.trans t6), an.2.2.1, g4.2.1.2.1, bP_some, gd_e tK_new, p1, bOv_some, gd_e p2, bS_eq, ← ew, p3]
    exact z1
  have rz := rdz g1
  have G1 : ∀ J, 37 ≤ J → J < 45 → m' J = m J := fun J h1 h2 => (z4.1 J (by omega) (by omega) (by omega) (by omega)).trans ((J8 J (by omega) (by omega) (by omega)).trans (g3.1 J (by omega) (by omega)))
  have G2 : ∀ J, 45 ≤ J → J ≤ 49 → m1 J = m J := fun J h1 h2 => g3.1 J (by omega) (by omega)
  refine ⟨T', m', hh, z3, by omega, ⟨z5, fun g hg => (z4.2 g hg).trans ((F8 g (by omega)).trans (g3.2 g (by omega)))⟩, ?_, fun J h1 h2 => G1 J h1 (by omega), fun i => ?_, fun i => ?_, fun i => ?_, fun i => ?_, ?_, fun k hk => ?_⟩
  · rw [z4.1 1 (by decide) (by decide) (by decide) (by decide), J8 1 (by decide) (by decide) (by decide), g3.1 1 (by decide) (by decide)]
  · rw [z4.1 46 (by decide) (by decide) (by decide) (by decide), a46, G2 46 (by decide) (by decide), hn0]
  · rw [z4.1 47 (by decide) (by decide) (by decide) (by decide), a47, G2 47 (by decide) (by decide), hn0, ew]
  · rw [z4.1 48 (by decide) (by decide) (by decide) (by decide), a48, G2 48 (by decide) (by decide), hn0, f6, f5 64 (by decide), g3.2 64 (by decide)]
  · rw [z4.1 49 (by decide) (by decide) (by decide) (by decide), a49, G2 49 (by decide) (by decide), hn0]
  · rw [z4.1 45 (by decide) (by decide) (by decide) (by decide), a45, if_pos hn0.symm]
  · rw [z4.1 2 (by decide) (by decide) (by decide) (by decide), j8 2 (by decide), ← hn0]
    exact y3 k hk
end HN2
