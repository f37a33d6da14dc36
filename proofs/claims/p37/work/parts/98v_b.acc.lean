/-! the law's questions: likeness, doubt, accuse, clear -/
section ASL
variable {T T' : Tx} {m m0 m' : Mx} {tx : List Int32} {i j k : Nat} {v w M : Int32} {es : List Nat} {ts : Nat → List Nat} {as : List Nat} {ps : Nat → Nat} {txs : Nat → List Int32} {ss : Nat → Sx} {pd : Nat} {own : Nat → Nat}
def likV (p q c : Nat) : Int32 := if nI p + nI q = 0 then 0 else 200 * nI c / (nI p + nI q)
noncomputable def likS (sa sb : Sx) : Int32 := likV (sa.1 5).length (sb.1 5).length (gi sa sb)
theorem lik_e (h : SInv 0 T m tx es ts as ps txs ss pd own) (hi : i < as.length) (hk : k < as.length) : h_11047 0 (nI i) (nI k) T = some (.inr (likS (ss i) (ss k))) := by
  obtain ⟨p1, p2, p3, p4⟩ := h.prt hi
  obtain ⟨q1, q2, q3, q4⟩ := h.prt hk
  unfold h_11047 likS likV
  rw [gd_e h.1.1, g39n h hi, bXn_some, gd_e p4, p1, bP_some, gd_e p2, p3, bP_some, gd_e h.1.1, g39n h hk, bXn_some, gd_e q4, q1, bP_some, gd_e q2, q3, bP_some]
  by_cases c : nI ((ss i).1 5).length + nI ((ss k).1 5).length = 0
  · rw [if_pos c, if_pos c]
  · rw [if_neg c, if_neg c, gd_e h.1.1, g46 h hi hk, bXn_some, gd_e c]
theorem a_lik (h : SInv 0 T m tx es ts as ps txs ss pd own) (hi : i < as.length) (hk : k < as.length) : h_13024 0 (nI i) (nI k) T = some (likS (ss i) (ss k)) := by
  have hh : h_11031 0 (nI i) (nI k) T = some (.inr (likS (ss i) (ss k))) := by
    unfold h_11031
    rw [gd_e h.1.1, g38 h, if_pos (in_as h hi), bXn_some, gd_e h.1.1, g38 h, if_pos (in_as h hk), bXn_some, gd_e h.1.1, lik_e h hi hk, bXn_some]
  unfold h_13024
  rw [hh]
  rfl
/-- parts in common, both ways -/
theorem a_comm (h : SInv 0 T m tx es ts as ps txs ss pd own) (hi : i < as.length) (hk : k < as.length) : gi (ss i) (ss k) = gi (ss k) (ss i) ∧ gi (ss i) (ss k) ≤ ((ss i).1 5).length ∧ gi (ss i) (ss k) ≤ ((ss k).1 5).length ∧ likS (ss i) (ss k) = likS (ss k) (ss i) ∧ gi (ss i) (ss i) = ((ss i).1 5).length := by
  have e := gi_comm (h.Pb hi) (h.Pb hk)
  have l1 : gi (ss i) (ss k) ≤ ((ss i).1 5).length := gr_le _ _ _
  have l2 : gi (ss k) (ss i) ≤ ((ss k).1 5).length := gr_le _ _ _
  refine ⟨e, l1, by omega, ?_, gi_self (h.Pb hi)⟩
  unfold likS likV
  rw [e, Int32.add_comm]
/-- a doubt -/
noncomputable def susV (m : Mx) (ss : Nat → Sx) (i k : Nat) : Int32 := if i ≤ k then 0 else if m 46 i = m 46 k then 0 else if m 47 i = m 47 k then (if likS (ss i) (ss k) < 80 then 0 else if nI (gi (ss i) (ss k)) < 3 then 0 else 1) else 0
theorem sus_e (h : SInv 0 T m tx es ts as ps txs ss pd own) (hi : i < as.length) (hk : k < as.length) : h_11048 0 (nI i) (nI k) T = some (.inr (susV m ss i k)) := by
  have h30 := h.2.2.2.2.1.2.1
  obtain ⟨j, j1, j2, j3, a1, a2, a3, a4, a5, a6, a7, a8, a9, ⟨a0, _⟩, b1⟩ := h.an hi
  obtain ⟨j', j1', j2', j3', a1', a2', a3', a4', a5', a6', a7', a8', a9', ⟨a0', _⟩, b1'⟩ := h.an hk
  have hh : h_11048 0 (nI i) (nI k) T = if nI i ≤ nI k then some (.inr 0) else if m 46 i = m 46 k then some (.inr 0) else if nI j = nI j' then (bXn (h_11047 0 (nI i) (nI k) T) fun r8 => if r8 < 80 then some (.inr 0) else gd (tK T 0 = 12) <| bXn (h_11046 0 (nI i) (nI k) T) fun r10 => if r10 < 3 then some (.inr 0) else some (.inr (1 : Int32))) else some (.inr 0) := by
    unfold h_11048
    rw [gd_e h.1.1, g39n h hi, bXn_some, gd_e h.1.1, g39n h hk, bXn_some, gd_e a1, gd_e a1', a0, a0', gd_e a1, a2, bP_some, gd_e a3.2.2.1, gd_e a1', a2', bP_some, gd_e a3'.2.2.1, b1, b1', gd_e h.1.1]
  rw [hh, lik_e h hi hk, bXn_some, gd_e h.1.1, g46 h hi hk, bXn_some]
  unfold susV
  rw [a4, a4']
  by_cases c1 : i ≤ k
  · rw [if_pos ((nI_gle (by omega) (by omega)).2 c1), if_pos c1]
  rw [if_neg (fun z => c1 ((nI_gle (by omega) (by omega)).1 z)), if_neg c1]
  by_cases c2 : m 46 i = m 46 k
  · rw [if_pos c2, if_pos c2]
  rw [if_neg c2, if_neg c2]
  by_cases c3 : nI j = nI j'
  · rw [if_pos c3, if_pos c3]
    by_cases c4 : likS (ss i) (ss k) < 80
    · rw [if_pos c4, if_pos c4]
    rw [if_neg c4, if_neg c4]
    by_cases c5 : nI (gi (ss i) (ss k)) < 3
    · rw [if_pos c5, if_pos c5]
    · rw [if_neg c5, if_neg c5]
  · rw [if_neg c3, if_neg c3]
theorem a_doubt (h : SInv 0 T m tx es ts as ps txs ss pd own) (hi : i < as.length) : h_13027 0 (nI i) T = some (asc (fun k => susV m ss i k) (-1) i 0) := by
  have h30 := h.2.2.2.2.1.2.1
  have p1 := dbt_c (D := fun k => susV m ss i k) h hi (fun k hk => sus_e h hi hk) i 100 0 359 2194 (by omega) (by omega) (by omega) (by omega)
  have hh : h_11034 0 (nI i) T = some (.inr (asc (fun k => susV m ss i k) (-1) i 0)) := by
    unfold h_11034
    rw [gd_e h.1.1, g38 h, if_pos (in_as h hi), bXn_some]
    exact p1
  unfold h_13027
  rw [hh]
  rfl
/-- the first of them -/
theorem asc_p {D : Nat → Int32} : ∀ (q l : Nat), (asc D (-1) q l = -1 ∧ ∀ k, l ≤ k → k < l + q → D k = 0) ∨ ∃ k, l ≤ k ∧ k < l + q ∧ asc D (-1) q l = nI k ∧ D k ≠ 0 ∧ ∀ k', l ≤ k' → k' < l + q → D k' ≠ 0 → k ≤ k' := by
  intro q
  induction q with
  | zero => intro l; exact Or.inl ⟨rfl, fun k h1 h2 => by omega⟩
  | succ q ih =>
    intro l
    rw [asc]
    by_cases c : D l = 0
    · rw [if_pos c]
      rcases ih (l + 1) with ⟨w1, w2⟩ | ⟨k, w1, w2, w3, w4, w5⟩
      · refine Or.inl ⟨w1, fun k h1 h2 => ?_⟩
        by_cases e : k = l
        · rw [e]; exact c
        · exact w2 k (by omega) (by omega)
      · refine Or.inr ⟨k, by omega, by omega, w3, w4, fun k' h1 h2 h3 => ?_⟩
        by_cases e : k' = l
        · rw [e] at h3; exact absurd c h3
        · exact w5 k' (by omega) (by omega) h3
    · rw [if_neg c]
      exact Or.inr ⟨l, Nat.le_refl _, by omega, rfl, c, fun k' h1 _ _ => h1⟩
theorem a_accF (h : SInv 0 T m tx es ts as ps txs ss pd own) (hv : ¬ ((0 ≤ v.toInt ∧ v.toInt < as.length) ∧ 0 ≤ w.toInt ∧ w.toInt < as.length)) : h_13025 0 v w T = some (T, -1000001) := by
  have hh : h_11032 0 v w T = some (T, .inl 2) := by
    unfold h_11032
    rw [gd_e h.1.1, g39 h]
    by_cases c1 : 0 ≤ v.toInt ∧ v.toInt < as.length
    · rw [if_pos c1, bXp_some, gd_e h.1.1, g38 h, if_neg (fun q => hv ⟨c1, q⟩)]
      rfl
    · rw [if_neg c1]
      rfl
  unfold h_13025
  rw [hh]
  rfl
theorem a_acc (h : SInv 0 T m tx es ts as ps txs ss pd own) (hi : i < as.length) (hk : k < as.length) (hM : f_12098 (nI i) m = some M) : (m 49 i = 0 ∧ susV m ss i k ≠ 0 ∧ h_13025 0 (nI i) (nI k) T = some (tsV T (gNl as i) 7 1, M) ∧ SInv 0 (tsV T (gNl as i) 7 1) (ms m 49 (nI i) 1) tx es ts as ps txs ss pd own) ∨ (¬ (m 49 i = 0 ∧ susV m ss i k ≠ 0) ∧ h_13025 0 (nI i) (nI k) T = some (T, -1000003)) := by
  have h30 := h.2.2.2.2.1.2.1
  obtain ⟨j, j1, j2, j3, a1, a2, a3, a4, a5, a6, a7, a8, a9, ⟨a0, _, _, b7⟩, b1⟩ := h.an hi
  have g2 := sus_e h hi hk
  by_cases c1 : m 49 i = 0
  · by_cases c2 : susV m ss i k = 0
    · refine Or.inr ⟨fun z => z.2 c2, ?_⟩
      have hh : h_11032 0 (nI i) (nI k) T = some (T, .inl 3) := by
        unfold h_11032
        rw [gd_e h.1.1, g39n h hi, bXp_some, gd_e h.1.1, g38 h, if_pos (in_as h hk), bXp_some, gd_e a1, b7, if_pos c1, gd_e h.1.1, g2, bXp_some, if_pos c2]
      unfold h_13025
      rw [hh]
      rfl
    · obtain ⟨M', p1, p2⟩ := h.mrk hi
      rw [hM] at p2
      cases p2
      have hh : h_11032 0 (nI i) (nI k) T = some (tsV T (gNl as i) 7 1, .inr M) := by
        unfold h_11032
        rw [gd_e h.1.1, g39n h hi, bXp_some, gd_e h.1.1, g38 h, if_pos (in_as h hk), bXp_some, gd_e a1, b7, if_pos c1, gd_e h.1.1, g2, bXp_some, if_neg c2, gd_e a1, p1, bP_some, gd_e a1, bS_eq]
      obtain ⟨k1, k2⟩ := ms49 (m := m) (u := 1) (i := i) (by omega)
      refine Or.inl ⟨c1, c2, ?_, h.stk hi (Or.inr rfl) k1 k2⟩
      unfold h_13025
      rw [hh]
      rfl
  · refine Or.inr ⟨fun z => c1 z.1, ?_⟩
    have hh : h_11032 0 (nI i) (nI k) T = some (T, .inl 3) := by
      unfold h_11032
      rw [gd_e h.1.1, g39n h hi, bXp_some, gd_e h.1.1, g38 h, if_pos (in_as h hk), bXp_some, gd_e a1, b7, if_neg c1]
    unfold h_13025
    rw [hh]
    rfl
theorem a_clear (h : SInv 0 T m tx es ts as ps txs ss pd own) (hi : i < as.length) (c1 : m 49 i ≠ 0) : ∃ M : Int32, f_12098 (nI i) (ms m 49 (nI i) 0) = some M ∧ h_13026 0 (nI i) T = some (tsV T (gNl as i) 7 0, M) ∧ SInv 0 (tsV T (gNl as i) 7 0) (ms m 49 (nI i) 0) tx es ts as ps txs ss pd own := by
  have h30 := h.2.2.2.2.1.2.1
  obtain ⟨j, j1, j2, j3, a1, a2, a3, a4, a5, a6, a7, a8, a9, ⟨a0, _, _, b7⟩, b1⟩ := h.an hi
  obtain ⟨k1, k2⟩ := ms49 (m := m) (u := 0) (i := i) (by omega)
  have h1 := h.stk hi (Or.inl rfl) k1 k2
  obtain ⟨M, p1, p2⟩ := h1.mrk hi
  refine ⟨M, p2, ?_, h1⟩
  have hh : h_11033 0 (nI i) T = some (tsV T (gNl as i) 7 0, .inr M) := by
    unfold h_11033
    rw [gd_e h.1.1, g39n h hi, bXp_some, gd_e a1, b7, if_neg c1, gd_e a1, bS_eq, gd_e (show tK (tsV T (gNl as i) 7 0) (gNl as i) = 2 from a1), p1, bP_some]
  unfold h_13026
  rw [hh]
  rfl
theorem a_clearF (h : SInv 0 T m tx es ts as ps txs ss pd own) (hi : i < as.length) (c1 : m 49 i = 0) : h_13026 0 (nI i) T = some (T, -1000003) := by
  obtain ⟨j, j1, j2, j3, a1, a2, a3, a4, a5, a6, a7, a8, a9, ⟨a0, _, _, b7⟩, b1⟩ := h.an hi
  have hh : h_11033 0 (nI i) T = some (T, .inl 3) := by
    unfold h_11033
    rw [gd_e h.1.1, g39n h hi, bXp_some, gd_e a1, b7, if_pos c1]
  unfold h_13026
  rw [hh]
  rfl
end ASL
