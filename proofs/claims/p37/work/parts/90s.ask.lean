/-! the school: the other calls that only ask -/
section ASK
variable {x : Nat} {T T' : Tx} {m m' m1 m2 : Mx} {tx : List Int32} {es es' : List Nat} {ts ts' : Nat → List Nat} {as : List Nat} {ps : Nat → Nat} {txs : Nat → List Int32} {ss : Nat → Sx} {pd : Nat} {own : Nat → Nat} {v w : Int32} {i j k : Nat}
theorem FrL.f82 (h : FrL m m') : m' 0 82 = m 0 82 := h.2 _ (by decide) (by decide)
theorem c_parts (h : SInv x T m tx es ts as ps txs ss pd own) : SameR (h_11029 x v T) (f_12104 v m) cD (SINV x T) := by
  have hI : SINV x T m := ⟨_, _, _, _, _, _, _, _, _, h⟩
  have h01 : f_12090 v m = 0 ∨ f_12090 v m = 1 := in_01
  have h30 := h.2.2.2.2.1.2.1
  by_cases c : 0 ≤ v.toInt ∧ v.toInt < as.length
  · have ev := of_nI (v := v) c.1 (by omega)
    obtain ⟨m', I, c', d, g1, g2, g3, g4, g5, g6⟩ := (h.m0 (u := 0)).rdA (i := v.toInt.toNat) (by omega)
    obtain ⟨p1, p2, p3, p4⟩ := h.prt (i := v.toInt.toNat) (by omega)
    rw [← ev] at g1
    have hh : h_11029 x v T = some (.inr (nI ((ss v.toInt.toNat).1 5).length)) := by
      unfold h_11029
      rw [gd_e h.1.1, g39 h, if_pos c, bXn_some, gd_e p4, p1, bP_some, gd_e p2, p3, bP_some]
    have hf : f_12104 v m = some (m', nI ((ss v.toInt.toNat).1 5).length) := by
      unfold f_12104
      rw [goes1 h01, f90 h, if_pos c, if_pos rfl, bT_eq, if_neg (by decide), g1, bOv_some]
      exact congrArg (fun z => some (m', z)) g5.2.2.2.1
    exact ⟨_, _, _, hh, hf, ⟨_, _, _, _, _, _, _, _, _, h.m0.mm g2.ms⟩, Or.inl ⟨_, rfl, g2.f82.trans mp_s, rfl⟩⟩
  · have hh : h_11029 x v T = some (.inl 2) := by
      unfold h_11029
      rw [gd_e h.1.1, g39 h, if_neg c]
      rfl
    have hf : f_12104 v m = some (mp m 82 1, 0) := by
      unfold f_12104
      rw [goes1 h01, f90 h, if_neg c, if_neg (by decide), bT_eq, if_pos rfl]
    exact ⟨_, _, _, hh, hf, hI.mm m82, Or.inr ⟨2, rfl, by decide, mp_s⟩⟩
theorem f108 (h : SInv x T m tx es ts as ps txs ss pd own) : f_12108 v w m = if (0 ≤ v.toInt ∧ v.toInt < as.length) ∧ 0 ≤ w.toInt ∧ w.toInt < as.length then (mp m 82 0, 1) else (mp m 82 1, 0) := by
  unfold f_12108 f_12108_J21
  rw [f90 h, f90 h]
  by_cases c1 : 0 ≤ v.toInt ∧ v.toInt < as.length
  · rw [if_pos c1, if_neg (by decide)]
    by_cases c2 : 0 ≤ w.toInt ∧ w.toInt < as.length
    · rw [if_pos c2, if_neg (by decide), if_pos ⟨c1, c2⟩, goes1 i_01, if_pos rfl, bT_eq]
    · rw [if_neg c2, if_pos rfl, if_neg (fun q => c2 q.2), goes1 (Or.inl rfl), if_neg (by decide), bT_eq]
  · rw [if_neg c1, if_pos rfl, if_neg (fun q => c1 q.1), goes1 (Or.inl rfl), if_neg (by decide), bT_eq]
theorem g38b {α : Type} (h : SInv x T m tx es ts as ps txs ss pd own) (c : ¬ ((0 ≤ v.toInt ∧ v.toInt < as.length) ∧ 0 ≤ w.toInt ∧ w.toInt < as.length)) {K : Option (Nat ⊕ α)} : (bXn (h_11038 x v T) fun _ => gd (tK T x = 12) <| bXn (h_11038 x w T) fun _ => K) = some (.inl 2) := by
  rw [g38 h]
  by_cases c1 : 0 ≤ v.toInt ∧ v.toInt < as.length
  · rw [if_pos c1, bXn_some, gd_e h.1.1, g38 h, if_neg (fun q => c ⟨c1, q⟩)]
    rfl
  · rw [if_neg c1]
    rfl
theorem c_common (h : SInv x T m tx es ts as ps txs ss pd own) : SameR (h_11030 x v w T) (f_12109 v w m) cD (SINV x T) := by
  have hI : SINV x T m := ⟨_, _, _, _, _, _, _, _, _, h⟩
  have h30 := h.2.2.2.2.1.2.1
  by_cases c : (0 ≤ v.toInt ∧ v.toInt < as.length) ∧ 0 ≤ w.toInt ∧ w.toInt < as.length
  · have ev := of_nI (v := v) c.1.1 (by omega)
    have ew := of_nI (v := w) c.2.1 (by omega)
    obtain ⟨m', g1, g2, g3, g4⟩ := (h.m0 (u := 0)).cmR (i := v.toInt.toNat) (k := w.toInt.toNat) (by omega) (by omega)
    have g5 := g46 h (i := v.toInt.toNat) (k := w.toInt.toNat) (by omega) (by omega)
    rw [← ev, ← ew] at g4 g5
    have hh : h_11030 x v w T = some (.inr (nI (gi (ss v.toInt.toNat) (ss w.toInt.toNat)))) := by
      unfold h_11030
      rw [gd_e h.1.1, g38 h, if_pos c.1, bXn_some, gd_e h.1.1, g38 h, if_pos c.2, bXn_some, gd_e h.1.1, g5, bXn_some]
    have hf : f_12109 v w m = some (m', nI (gi (ss v.toInt.toNat) (ss w.toInt.toNat))) := by
      unfold f_12109
      rw [f108 h, if_pos c, bT_eq, if_neg (by decide), g4, bO_some]
    exact ⟨_, _, _, hh, hf, ⟨_, _, _, _, _, _, _, _, _, h.m0.mm g1.ms⟩, Or.inl ⟨_, rfl, g1.f82.trans mp_s, rfl⟩⟩
  · have hh : h_11030 x v w T = some (.inl 2) := by
      unfold h_11030
      rw [gd_e h.1.1, g38b h c]
    have hf : f_12109 v w m = some (mp m 82 1, 0) := by
      unfold f_12109
      rw [f108 h, if_neg c, bT_eq, if_pos rfl]
    exact ⟨_, _, _, hh, hf, hI.mm m82, Or.inr ⟨2, rfl, by decide, mp_s⟩⟩
theorem c_likeness (h : SInv x T m tx es ts as ps txs ss pd own) : SameR (h_11031 x v w T) (f_12110 v w m) cD (SINV x T) := by
  have hI : SINV x T m := ⟨_, _, _, _, _, _, _, _, _, h⟩
  have h30 := h.2.2.2.2.1.2.1
  by_cases c : (0 ≤ v.toInt ∧ v.toInt < as.length) ∧ 0 ≤ w.toInt ∧ w.toInt < as.length
  · have ev := of_nI (v := v) c.1.1 (by omega)
    have ew := of_nI (v := w) c.2.1 (by omega)
    obtain ⟨m', L, g1, g5, g4⟩ := lik (h.m0 (u := 0)) (i := v.toInt.toNat) (k := w.toInt.toNat) (by omega) (by omega)
    rw [← ev, ← ew] at g4 g5
    have hh : h_11031 x v w T = some (.inr L) := by
      unfold h_11031
      rw [gd_e h.1.1, g38 h, if_pos c.1, bXn_some, gd_e h.1.1, g38 h, if_pos c.2, bXn_some, gd_e h.1.1, g5, bXn_some]
    have hf : f_12110 v w m = some (m', L) := by
      unfold f_12110
      rw [f108 h, if_pos c, bT_eq, if_neg (by decide), g4, bO_some]
    exact ⟨_, _, _, hh, hf, ⟨_, _, _, _, _, _, _, _, _, h.m0.mm g1.ms⟩, Or.inl ⟨_, rfl, g1.f82.trans mp_s, rfl⟩⟩
  · have hh : h_11031 x v w T = some (.inl 2) := by
      unfold h_11031
      rw [gd_e h.1.1, g38b h c]
    have hf : f_12110 v w m = some (mp m 82 1, 0) := by
      unfold f_12110
      rw [f108 h, if_neg c, bT_eq, if_pos rfl]
    exact ⟨_, _, _, hh, hf, hI.mm m82, Or.inr ⟨2, rfl, by decide, mp_s⟩⟩
theorem v_nI {n : Nat} (hn : n < 1000) : v = nI n ↔ v.toInt = n := by rw [i_eq, nI_T (by omega)]
/-- the best mark -/
theorem best_L (h : SInv x T m tx es ts as ps txs ss pd own) {e bc bs : Nat} : ∀ (q n n' l : Nat) (b : Int32), l + q = as.length → q < n → q < n' → ∃ P, h_11027_L16 n x v w e b (nI l) bc bs T = some (.inr P) ∧ f_12102_L36 n' v w b (nI l) m = some (m, P) := by
  obtain ⟨t1, t2, t3, t4, t5, t6⟩ := h.ans
  have e74 : mf m 74 = nI as.length := t5
  intro q
  induction q with
  | zero =>
    intro n n' l b hl hn hn'
    obtain ⟨n, rfl⟩ : ∃ q, n = q + 1 := ⟨n - 1, by omega⟩
    obtain ⟨n', rfl⟩ : ∃ q, n' = q + 1 := ⟨n' - 1, by omega⟩
    have c : nI as.length ≤ nI l := (nI_le' (by omega) (by omega)).2 (by omega)
    refine ⟨b, ?_, ?_⟩
    · rw [h_11027_L16, gd_e t6, t1, bP_some, gd_e t2, t3, if_pos c]
    · rw [f_12102_L36, e74, if_pos c]
  | succ q ih =>
    intro n n' l b hl hn hn'
    obtain ⟨n, rfl⟩ : ∃ q, n = q + 1 := ⟨n - 1, by omega⟩
    obtain ⟨n', rfl⟩ : ∃ q, n' = q + 1 := ⟨n' - 1, by omega⟩
    have c : ¬ nI as.length ≤ nI l := fun w => by have := (nI_le' (by omega) (by omega)).1 w; omega
    obtain ⟨j, j1, j2, j3, a1, a2, a3, a4, a5, a6, a7, a8, a9, ⟨a0, _⟩, b1⟩ := h.an (i := l) (by omega)
    obtain ⟨M, p1, p2⟩ := h.mrk (i := l) (by omega)
    have eg : as.getD (nI l).toNatClampNeg 0 = gNl as l := by rw [nI_C (by omega)]
    have e46 : mg m 46 (nI l) = m 46 l := mg_n (by omega)
    have e47 : mg m 47 (nI l) = nI j := by rw [mg_n (by omega)]; exact a4
    have hh : h_11027_L16 (n + 1) x v w e b (nI l) bc bs T = if m 46 l = v ∧ nI j = w then h_11027_L16 n x v w e (if b < M then M else b) (nI (l + 1)) bc bs T else h_11027_L16 n x v w e b (nI (l + 1)) bc bs T := by
      rw [h_11027_L16, gd_e t6, t1, bP_some, gd_e t2, t3, if_neg c, gd_e t6, bP_some, gd_e t2, t3, gd_e (vi_n (by omega) (by omega)), bS_eq, eg, gd_e a1, gd_e a1, a0, nI_p1 (by omega)]
      by_cases c1 : m 46 l = v
      · rw [if_pos c1, gd_e a1, a2, bP_some, gd_e a3.2.2.1, b1]
        by_cases c2 : nI j = w
        · rw [if_pos c2, if_pos ⟨c1, c2⟩, gd_e a1, p1, bP_some]
        · rw [if_neg c2, if_neg (fun z => c2 z.2)]
      · rw [if_neg c1, if_neg (fun z => c1 z.1)]
    have hf : f_12102_L36 (n' + 1) v w b (nI l) m = if m 46 l = v ∧ nI j = w then f_12102_L36 n' v w (if b < M then M else b) (nI (l + 1)) m else f_12102_L36 n' v w b (nI (l + 1)) m := by
      have J71 : f_12102_J71 (f_12102_L36 n') v w b (nI l) m = f_12102_L36 n' v w b (nI (l + 1)) m := by
        unfold f_12102_J71 f_12102_J72
        rw [if_pos rfl, nI_p1 (by omega)]
      have J72 : f_12102_J72 (f_12102_L36 n') v w b (nI l) 1 m = f_12102_L36 n' v w (if b < M then M else b) (nI (l + 1)) m := by
        unfold f_12102_J72
        rw [if_neg (by decide), p2, bP_some, bP_some, nI_p1 (by omega)]
        by_cases c3 : M ≤ b
        · rw [if_pos c3, if_neg (by rw [i_lt]; rw [i_le] at c3; omega)]
        · rw [if_neg c3, if_pos (by rw [i_lt]; rw [i_le] at c3; omega)]
      rw [f_12102_L36, e74, if_neg c, gd_e (vi_n (by omega) (by omega)), gd_e (vi_n (by omega) (by omega)), e46, e47, J71, J72]
      by_cases c1 : m 46 l = v
      · rw [if_pos c1]
        by_cases c2 : nI j = w
        · rw [if_pos c2, if_pos (show m 46 l = v ∧ nI j = w from ⟨c1, c2⟩)]
        · rw [if_neg c2, if_neg (show ¬ (m 46 l = v ∧ nI j = w) from fun z => c2 z.2)]
      · rw [if_neg c1, if_neg (show ¬ (m 46 l = v ∧ nI j = w) from fun z => c1 z.1)]
    rw [hh, hf]
    by_cases c1 : m 46 l = v ∧ nI j = w
    · rw [if_pos c1, if_pos c1]
      exact ih _ _ _ _ (by omega) (by omega) (by omega)
    · rw [if_neg c1, if_neg c1]
      exact ih _ _ _ _ (by omega) (by omega) (by omega)
theorem c_best (h : SInv x T m tx es ts as ps txs ss pd own) : SameR (h_11027 x v w T) (f_12102 v w m) cD (SINV x T) := by
  have hI : SINV x T m := ⟨_, _, _, _, _, _, _, _, _, h⟩
  have h30 := h.2.2.2.2.1.2.1
  by_cases c : (0 ≤ v.toInt ∧ v.toInt < 6) ∧ 0 ≤ w.toInt ∧ w.toInt < es.length
  · obtain ⟨P, p1, p2⟩ := best_L (v := v) (w := w) (h.m0 (u := 0)) (e := gNl es w.toInt.toNat) (bc := 0) (bs := 0) as.length 100 1000 0 (-1) (by omega) (by omega) (by omega)
    have hh : h_11027 x v w T = some (.inr P) := by
      unfold h_11027
      rw [g37, if_pos c.1, bXn_some, gd_e h.1.1, g40 h, if_pos c.2, bXn_some]
      exact p1
    have hf : f_12102 v w m = some (mp m 82 0, P) := by
      unfold f_12102 f_12102_J21
      have q1 : f_12091 v m = 1 := by rw [f91, if_pos c.1]
      have q2 : f_12082 w m = 1 := by rw [f82 h, if_pos c.2]
      rw [q1, if_neg (by decide), q2, if_neg (by decide), goes1 i_01, if_pos rfl, bT_eq, if_neg (by decide)]
      exact p2
    exact ⟨_, _, _, hh, hf, hI.mm m82, Or.inl ⟨_, rfl, mp_s, rfl⟩⟩
  · have hh : h_11027 x v w T = some (.inl 2) := by
      unfold h_11027
      rw [g37]
      by_cases c1 : 0 ≤ v.toInt ∧ v.toInt < 6
      · rw [if_pos c1, bXn_some, gd_e h.1.1, g40 h, if_neg (fun q => c ⟨c1, q⟩)]
        rfl
      · rw [if_neg c1]
        rfl
    have hf : f_12102 v w m = some (mp m 82 1, 0) := by
      have z : f_12102_J20 v w m = some (mp m 82 1, 0) := by
        unfold f_12102_J20 f_12102_J21
        rw [goes1 (Or.inl rfl), if_neg (by decide), bT_eq, if_pos rfl]
      unfold f_12102
      rw [z]
      by_cases c1 : 0 ≤ v.toInt ∧ v.toInt < 6
      · have q1 : f_12091 v m = 1 := by rw [f91, if_pos c1]
        have q2 : f_12082 w m = 0 := by rw [f82 h, if_neg (fun q => c ⟨c1, q⟩)]
        rw [q1, if_neg (by decide), q2, if_pos rfl]
      · have q1 : f_12091 v m = 0 := by rw [f91, if_neg c1]
        rw [q1, if_pos rfl]
    exact ⟨_, _, _, hh, hf, hI.mm m82, Or.inr ⟨2, rfl, by decide, mp_s⟩⟩
/-- how many passed -/
theorem psd_L (h : SInv x T m tx es ts as ps txs ss pd own) {e bc bs J q0 : Nat} (hv : v = nI J) (hw : w = nI q0) (hJ : J < es.length) (hq : q0 < (ts J).length) : ∀ (q n n' l : Nat) (b : Int32), l + q = as.length → q < n → q < n' → ∃ P, h_11028_L18 n x v w e b (nI l) bc bs T = some (.inr P) ∧ f_12103_L22 n' v w b (nI l) m = some (m, P) := by
  obtain ⟨t1, t2, t3, t4, t5, t6⟩ := h.ans
  have e74 : mf m 74 = nI as.length := t5
  intro q
  induction q with
  | zero =>
    intro n n' l b hl hn hn'
    obtain ⟨n, rfl⟩ : ∃ q, n = q + 1 := ⟨n - 1, by omega⟩
    obtain ⟨n', rfl⟩ : ∃ q, n' = q + 1 := ⟨n' - 1, by omega⟩
    have c : nI as.length ≤ nI l := (nI_le' (by omega) (by omega)).2 (by omega)
    refine ⟨b, ?_, ?_⟩
    · rw [h_11028_L18, gd_e t6, t1, bP_some, gd_e t2, t3, if_pos c]
    · rw [f_12103_L22, e74, if_pos c]
  | succ q ih =>
    intro n n' l b hl hn hn'
    obtain ⟨n, rfl⟩ : ∃ q, n = q + 1 := ⟨n - 1, by omega⟩
    obtain ⟨n', rfl⟩ : ∃ q, n' = q + 1 := ⟨n' - 1, by omega⟩
    have c : ¬ nI as.length ≤ nI l := fun w => by have := (nI_le' (by omega) (by omega)).1 w; omega
    obtain ⟨j, j1, j2, j3, a1, a2, a3, a4, a5, a6, a7, a8, a9, ⟨a0, _⟩, b1⟩ := h.an (i := l) (by omega)
    have eg : as.getD (nI l).toNatClampNeg 0 = gNl as l := by rw [nI_C (by omega)]
    have e47 : mg m 47 (nI l) = nI j := by rw [mg_n (by omega)]; exact a4
    have ht8 : (ts j).length ≤ 8 := a3.2.2.2.2.2.2.1
    by_cases c2 : j = J
    · subst c2
      obtain ⟨y1, y2, y3⟩ := a9 q0 hq
      have e51 : mg m 51 (8 * nI l + nI q0) = m 51 (8 * l + q0) := by rw [n8 (by omega), mg_n (by omega)]
      have ex : xg (tB T (gNl as l + 3)) (nI q0) = m 51 (8 * l + q0) := by
        rw [xg_at (by rw [nI_T (by omega)]; omega), nI_T (by omega)]
        exact y2
      have hh : h_11028_L18 (n + 1) x v w e b (nI l) bc bs T = h_11028_L18 n x v w e (b + m 51 (8 * l + q0)) (nI (l + 1)) bc bs T := by
        rw [h_11028_L18, gd_e t6, t1, bP_some, gd_e t2, t3, if_neg c, gd_e t6, bP_some, gd_e t2, t3, gd_e (vi_n (by omega) (by omega)), bS_eq, eg, gd_e a1, gd_e a1, a2, bP_some, gd_e a3.2.2.1, b1, nI_p1 (by omega), if_pos hv.symm, gd_e a1, a7, bP_some, gd_e a8, hw, ex]
      have hf : f_12103_L22 (n' + 1) v w b (nI l) m = f_12103_L22 n' v w (b + m 51 (8 * l + q0)) (nI (l + 1)) m := by
        rw [f_12103_L22, e74, if_neg c, gd_e (vi_n (by omega) (by omega)), e47, if_pos hv.symm, hw, gd_e (show vi (8 * nI l + nI q0) 240 by rw [n8 (by omega)]; exact vi_n (by omega) (by omega)), e51]
        unfold f_12103_J62
        rw [nI_p1 (by omega)]
        rcases y3 with y | y
        · rw [y, if_pos rfl]
        · rw [y, if_neg (by decide)]
      rw [hh, hf]
      exact ih _ _ _ _ (by omega) (by omega) (by omega)
    · have h4 := h.2.2.2.1.2.1
      have c3 : ¬ nI j = v := fun z => by
        rw [hv, nI_eq (by omega) (by omega)] at z
        exact c2 z
      have hh : h_11028_L18 (n + 1) x v w e b (nI l) bc bs T = h_11028_L18 n x v w e b (nI (l + 1)) bc bs T := by
        rw [h_11028_L18, gd_e t6, t1, bP_some, gd_e t2, t3, if_neg c, gd_e t6, bP_some, gd_e t2, t3, gd_e (vi_n (by omega) (by omega)), bS_eq, eg, gd_e a1, gd_e a1, a2, bP_some, gd_e a3.2.2.1, b1, nI_p1 (by omega), if_neg c3]
      have hf : f_12103_L22 (n' + 1) v w b (nI l) m = f_12103_L22 n' v w b (nI (l + 1)) m := by
        rw [f_12103_L22, e74, if_neg c, gd_e (vi_n (by omega) (by omega)), e47, if_neg c3]
        unfold f_12103_J62
        rw [nI_p1 (by omega), Int32.add_zero]
      rw [hh, hf]
      exact ih _ _ _ _ (by omega) (by omega) (by omega)
theorem f83 (h : SInv x T m tx es ts as ps txs ss pd own) : f_12083 v w m = some (if (0 ≤ v.toInt ∧ v.toInt < es.length) ∧ 0 ≤ w.toInt ∧ w.toInt < (ts v.toInt.toNat).length then 1 else 0) := by
  have h4 := h.2.2.2.1.2.1
  unfold f_12083
  by_cases c1 : 0 ≤ v.toInt ∧ v.toInt < es.length
  · have q1 : f_12082 v m = 1 := by rw [f82 h, if_pos c1]
    have hE := h.2.2.2.1.2.2.2 v.toInt.toNat (by omega)
    have ht8 := hE.2.2.2.2.2.2.1
    have e39 : mg m 39 v = nI (ts v.toInt.toNat).length := hE.2.2.2.2.2.2.2.2.2.2.2.2.1
    rw [q1, if_neg (by decide), gd_e ⟨c1.1, by omega⟩, b_n (n := (ts v.toInt.toNat).length) (by omega) e39]
    by_cases c2 : 0 ≤ w.toInt ∧ w.toInt < (ts v.toInt.toNat).length
    · rw [if_pos c2, if_neg (by decide : ¬ (1 : Int32) = 0), if_pos ⟨c1, c2⟩]
    · rw [if_neg c2, if_pos rfl, if_neg (fun z => c2 z.2)]
  · have q1 : f_12082 v m = 0 := by rw [f82 h, if_neg c1]
    rw [q1, if_pos rfl, if_neg (fun z => c1 z.1)]
theorem c_passed (h : SInv x T m tx es ts as ps txs ss pd own) : SameR (h_11028 x v w T) (f_12103 v w m) cD (SINV x T) := by
  have hI : SINV x T m := ⟨_, _, _, _, _, _, _, _, _, h⟩
  have h30 := h.2.2.2.2.1.2.1
  have h4 := h.2.2.2.1.2.1
  by_cases c : (0 ≤ v.toInt ∧ v.toInt < es.length) ∧ 0 ≤ w.toInt ∧ w.toInt < (ts v.toInt.toNat).length
  · have hE := h.2.2.2.1.2.2.2 v.toInt.toNat (by omega)
    have ht8 := hE.2.2.2.2.2.2.1
    obtain ⟨P, p1, p2⟩ := psd_L (v := v) (w := w) (h.m0 (u := 0)) (e := gNl es v.toInt.toNat) (bc := 0) (bs := 0) (of_nI c.1.1 (by omega)) (of_nI c.2.1 (by omega)) (by omega) (by omega) as.length 100 1000 0 0 (by omega) (by omega) (by omega)
    have hh : h_11028 x v w T = some (.inr P) := by
      unfold h_11028
      rw [gd_e h.1.1, g40 h, if_pos c.1, bXn_some, g41 hE, if_pos c.2, bXn_some]
      exact p1
    have hf : f_12103 v w m = some (mp m 82 0, P) := by
      unfold f_12103
      rw [f83 h, if_pos c, bP_some, goes1 i_01, if_pos rfl, bT_eq, if_neg (by decide)]
      exact p2
    exact ⟨_, _, _, hh, hf, hI.mm m82, Or.inl ⟨_, rfl, mp_s, rfl⟩⟩
  · have hh : h_11028 x v w T = some (.inl 2) := by
      unfold h_11028
      rw [gd_e h.1.1, g40 h]
      by_cases c1 : 0 ≤ v.toInt ∧ v.toInt < es.length
      · rw [if_pos c1, bXn_some, g41 (h.2.2.2.1.2.2.2 v.toInt.toNat (by omega)), if_neg (fun q => c ⟨c1, q⟩)]
        rfl
      · rw [if_neg c1]
        rfl
    have hf : f_12103 v w m = some (mp m 82 1, 0) := by
      unfold f_12103
      rw [f83 h, if_neg c, bP_some, goes1 (Or.inl rfl), if_neg (by decide), bT_eq, if_pos rfl]
    exact ⟨_, _, _, hh, hf, hI.mm m82, Or.inr ⟨2, rfl, by decide, mp_s⟩⟩
end ASK
