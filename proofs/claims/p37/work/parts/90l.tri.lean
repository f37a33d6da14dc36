/-! the school: trials -/
section TRX
variable {x : Nat} {T T' : Tx} {m m' : Mx} {tx : List Int32} {es : List Nat} {ts : Nat → List Nat} {as : List Nat} {ps : Nat → Nat} {txs : Nat → List Int32} {ss : Nat → Sx} {pd : Nat} {own : Nat → Nat} {s : Sx} {i c d : Nat}
/-- only the engine's cells have changed -/
theorem SInv.eng (h : SInv x T m tx es ts as ps txs ss pd own) (hS : Shp T' x) (hZ : tZ T' = tZ T) (hg : ∀ a, ¬ (x + 42 ≤ a ∧ a < x + 68) → Agr T T' a) (hT : TrI x T' m') (hj : ∀ j, j ≠ 0 → j < 3 ∨ 36 < j → m' j = m j) (hf : ∀ f, f = 0 ∨ f = 65 ∨ f = 74 → m' 0 f = m 0 f) : SInv x T' m' tx es ts as ps txs ss pd own := by
  obtain ⟨l1, l2, l3, l4, l5⟩ := h.low
  obtain ⟨d1, d2⟩ := h.dyn (T' := T') (by omega) ⟨(hg _ (by omega)).2.2.2.1, (hg _ (by omega)).2.2.2.1⟩ (fun a h1 h2 h3 => hg a (by omega))
  have gp : ∀ k, k < 28 → Agr T T' (pd + k) := fun k hk => hg _ (by omega)
  have gx := hg x (by omega)
  obtain ⟨a1, ⟨⟨b1, b1', b1'', b1a, b1b⟩, b2, b3, b4, b5, b6, b7⟩, a3, a4, a5, a6⟩ := h
  refine ⟨hS, ⟨⟨by rw [(hg _ (by omega)).2.2.2.2.1]; exact b1, b1', b1'', by rw [hf 0 (by omega)]; exact b1a, by rw [hj 1 (by decide) (by decide)]; exact b1b⟩, by rw [gx.2.2.1]; exact b2, b3.agr (by omega) gp, b4, ?_, by rw [gx.2.2.2.2.2]; exact b6, by rw [(hg _ (by omega)).2.2.2.2.1]; exact b7⟩, hT, d1.mm (hf _ (by omega)) (fun j g1 g2 => hj j (by omega) (by omega)), d2.mm (hf _ (by omega)) (hj _ (by decide) (by decide)) (fun j g1 g2 => hj j (by omega) (by omega)), a6⟩
  rw [gx.2.2.2.2.2]
  rcases b5 with w | ⟨w, s0, s1, z1, z2, z3, z4⟩
  · exact Or.inl w
  · exact Or.inr ⟨w, s0, s1, z1, z2, z3, z4.agr gp⟩
theorem PgM.setf {g : Nat} {v : Int32} (h : PgM s i c d m) (h1 : g ≠ 14) (h2 : g ≠ 16) : PgM s i c d (mp m g v) := by
  have hj : ∀ j, j ≠ 0 → mp m g v j = m j := fun j hj => mp_j hj
  have e14 : mp m g v 0 14 = m 0 14 := mp_n (by omega)
  have e16 : mp m g v 0 16 = m 0 16 := mp_n (by omega)
  unfold PgM
  rw [hj 4 (by decide), hj 5 (by decide), hj 6 (by decide), hj 7 (by decide), hj 8 (by decide), hj 14 (by decide), hj 15 (by decide), e14, e16]
  exact h
theorem c_fault (h : SInv x T m tx es ts as ps txs ss pd own) : ∃ T' m' v, h_11006 x T = some (T', v) ∧ f_12073 m = some (m', v) ∧ SINV x T' m' := by
  obtain ⟨T', pd', own', m', s1, g1, g2, g3, g4, g5, g6, g7, g8⟩ := rdB h
  refine ⟨T', mp m' 82 0, s1.2 0, ?_, ?_, ⟨_, _, _, _, _, _, _, _, _, g4.mm m82⟩⟩
  · unfold h_11006
    rw [gd_e h.1.1, g1, bOv_some, gd_e g4.1.1, g4.2.1.2.1, bP_some, gd_e g4.2.1.2.2.1.1, g6.2.1]
  · unfold f_12073
    rw [g2, bOv_some, told_e, bT_eq, show mf m' 9 = s1.2 0 from g7]
theorem c_faultPlace (h : SInv x T m tx es ts as ps txs ss pd own) : ∃ T' m' v, h_11007 x T = some (T', v) ∧ f_12074 m = some (m', v) ∧ SINV x T' m' := by
  obtain ⟨T', pd', own', m', s1, g1, g2, g3, g4, g5, g6, g7, g8⟩ := rdB h
  have hP := g4.2.1.2.2.1
  have hr6 : tW T' (pd' + 1) 2 = some (pd' + 6) := hP.2.2.2.1 2 (by decide)
  have k6 : tK T' (pd' + 6) = 7 := (hP.2.2.2.2.2.1 2 (by decide)).1
  have b6 : tB T' (pd' + 6) = s1.1 2 := g6.1 2 (by decide)
  refine ⟨T', mp m' 82 0, mf m' 10, ?_, ?_, ⟨_, _, _, _, _, _, _, _, _, g4.mm m82⟩⟩
  · unfold h_11007
    rw [gd_e h.1.1, g1, bOv_some, gd_e g4.1.1, g4.2.1.2.1, bP_some, gd_e hP.1]
    rcases g8 with ⟨w1, w2, w3, w4, w5, w6⟩ | ⟨w1, w2, w3⟩
    · rw [if_neg (by rw [g6.2.1]; exact w1), gd_e g4.1.1, bP_some, gd_e hP.1, hP.2.2.1, bP_some, gd_e hP.2.1, hr6, bP_some, gd_e g4.1.1, bP_some, gd_e hP.1, gd_e k6, b6, g6.2.2, w3]
      have : w2 < 400 := by
        have := tks_300 g4.2.1.1.2.1
        omega
      rw [xg_at (by rw [nI_T (by omega)]; omega), nI_T (by omega)]
      show some (T', (s1.1 2).getD w2 0) = some (T', m' 0 10)
      rw [w6, w5]
    · rw [if_pos (by rw [g6.2.1]; exact w1)]
      show _ = some (T', m' 0 10)
      rw [w2]
  · unfold f_12074
    rw [g2, bOv_some, told_e, bT_eq]
theorem g43 {hS : tK T x = 12} (hW : tW T x 1 = some pd) (hK : tK T pd = 5) : h_11043 x T = some (if tV T pd 9 = 0 then .inr () else .inl 3) := by
  unfold h_11043
  rw [gd_e hS, hW, bP_some, gd_e hK]
  split <;> rfl
theorem g4004 {p : Nat} (hP : PrgAt T p) (hs : PrgIs T p s) : h_4004 p T = some (nI (s.1 5).length) := by
  unfold h_4004
  rw [gd_e hP.1, hP.2.2.2.2.1 0 (by decide), bP_some, gd_e (hP.2.2.2.2.2.1 5 (by decide)).1, show tB T (p + 12 + 2 * 0) = s.1 5 from hs.1 5 (by decide)]
theorem c_draftParts (h : SInv x T m tx es ts as ps txs ss pd own) : SameT (h_11008 x T) (f_12075 m) cF (SINV x) := by
  obtain ⟨T', pd', own', m', s1, g1, g2, g3, g4, g5, g6, g7, g8⟩ := rdB h
  have hP := g4.2.1.2.2.1
  rcases g8 with ⟨w1, _⟩ | ⟨w1, w2, w3, i, c, d, w4, w5, w6, w7⟩
  · have hh : h_11008 x T = some (T', .inl 3) := by
      unfold h_11008
      rw [gd_e h.1.1, g1, bOv_some, gd_e g4.1.1, g43 (hS := g4.1.1) g4.2.1.2.1 hP.1, if_neg (by rw [g6.2.1]; exact w1)]
      rfl
    have hf : f_12075 m = some (mp m' 82 1, 0) := by
      unfold f_12075 f_12075_J17
      rw [g2, bOv_some, if_neg (by rw [show mf m' 9 = s1.2 0 from g7]; exact w1), goes1 (Or.inl rfl), if_neg (by decide), bT_eq, if_pos rfl]
    exact ⟨_, _, _, _, hh, hf, ⟨_, _, _, _, _, _, _, _, _, g4.mm m82⟩, Or.inr ⟨3, rfl, by decide, mp_s⟩⟩
  · have hh : h_11008 x T = some (T', .inr (nI (s1.1 5).length)) := by
      unfold h_11008
      rw [gd_e h.1.1, g1, bOv_some, gd_e g4.1.1, g43 (hS := g4.1.1) g4.2.1.2.1 hP.1, if_pos (by rw [g6.2.1]; exact w1), bXp_some, gd_e g4.1.1, g4.2.1.2.1, bP_some, gd_e hP.1, g4004 hP g6, bP_some]
    have hf : f_12075 m = some (mp m' 82 0, nI (s1.1 5).length) := by
      unfold f_12075 f_12075_J17
      rw [g2, bOv_some, if_pos (by rw [show mf m' 9 = s1.2 0 from g7]; exact w1), goes1 i_01, if_pos rfl, bT_eq, if_neg (by decide), show mf (mp m' 82 0) 16 = nI (s1.1 5).length from (mp_n (by decide)).trans w6.2.2.2.1]
    exact ⟨_, _, _, _, hh, hf, ⟨_, _, _, _, _, _, _, _, _, g4.mm m82⟩, Or.inl ⟨_, rfl, mp_s, rfl⟩⟩
/-- the reference keeps what the trial told -/
theorem cp_91 {l1 l2 l3 : Int32} : ∀ (k n l : Nat) (m' : Mx), l + k = 32 → k < n → (∀ j, j ≠ 36 → m' j = m j) → (∀ i, i < l → m' 36 i = m 34 i) → ∃ m'', (∀ j, j ≠ 36 → m'' j = m j) ∧ (∀ i, i < 32 → m'' 36 i = m 34 i) ∧ f_12076_L91 n l1 l2 l3 (nI l) m' = some (m'', mf m 50) := by
  intro k
  induction k with
  | zero =>
    intro n l m' hl hk hF h3
    obtain ⟨n, rfl⟩ : ∃ n', n = n' + 1 := ⟨n - 1, by omega⟩
    refine ⟨m', hF, fun i hi => h3 i (by omega), ?_⟩
    rw [f_12076_L91, if_pos (show (32 : Int32) ≤ nI l from (nI_leI (a := 32) (by omega) (by omega)).2 (by omega)), show mf m' 50 = mf m 50 from congrFun (hF 0 (by decide)) 50]
  | succ k ih =>
    intro n l m' hl hk hF h3
    obtain ⟨n, rfl⟩ : ∃ n', n = n' + 1 := ⟨n - 1, by omega⟩
    have e1 : mg m' 34 (nI l) = m 34 l := by
      unfold mg
      rw [nI_C (by omega), hF 34 (by decide)]
    rw [f_12076_L91, if_neg (fun q => by have := (nI_leI (a := 32) (by omega) (by omega)).1 q; omega), gd_e (vi_n (by omega) (by omega)), gd_e (vi_n (by omega) (by omega)), e1, bS_eq, nI_p1 (by omega)]
    refine ih n (l + 1) _ (by omega) (by omega) (fun j hj => (ms_j hj).trans (hF j hj)) (fun i hi => ?_)
    rw [ms_s (by omega)]
    dsimp only
    by_cases e : i = l
    · rw [if_pos e, e]
    · rw [if_neg e]; exact h3 i (by omega)
theorem cp_61 {l1 l2 l3 : Int32} : ∀ (k n l : Nat) (m' : Mx), l + k = 8 → k < n → (∀ j, j ≠ 35 → m' j = m j) → (∀ i, i < l → m' 35 i = m 33 i) → ∃ m'', (∀ j, j ≠ 35 → m'' j = m j) ∧ (∀ i, i < 8 → m'' 35 i = m 33 i) ∧ f_12076_L61 n l1 l2 l3 (nI l) m' = f_12076_L91 1000 l1 l2 l3 0 m'' := by
  intro k
  induction k with
  | zero =>
    intro n l m' hl hk hF h3
    obtain ⟨n, rfl⟩ : ∃ n', n = n' + 1 := ⟨n - 1, by omega⟩
    refine ⟨m', hF, fun i hi => h3 i (by omega), ?_⟩
    rw [f_12076_L61, if_pos (show (8 : Int32) ≤ nI l from (nI_leI (a := 8) (by omega) (by omega)).2 (by omega))]
  | succ k ih =>
    intro n l m' hl hk hF h3
    obtain ⟨n, rfl⟩ : ∃ n', n = n' + 1 := ⟨n - 1, by omega⟩
    have e1 : mg m' 33 (nI l) = m 33 l := by
      unfold mg
      rw [nI_C (by omega), hF 33 (by decide)]
    rw [f_12076_L61, if_neg (fun q => by have := (nI_leI (a := 8) (by omega) (by omega)).1 q; omega), gd_e (vi_n (by omega) (by omega)), gd_e (vi_n (by omega) (by omega)), e1, bS_eq, nI_p1 (by omega)]
    refine ih n (l + 1) _ (by omega) (by omega) (fun j hj => (ms_j hj).trans (hF j hj)) (fun i hi => ?_)
    rw [ms_s (by omega)]
    dsimp only
    by_cases e : i = l
    · rw [if_pos e, e]
    · rw [if_neg e]; exact h3 i (by omega)
end TRX
