/-! the law's questions: what the class answers, by m -/
section ASK
variable {T T' : Tx} {m m0 m' : Mx} {tx : List Int32} {i j k : Nat} {v w M : Int32} {es : List Nat} {ts : Nat → List Nat} {as : List Nat} {ps : Nat → Nat} {txs : Nat → List Int32} {ss : Nat → Sx} {pd : Nat} {own : Nat → Nat}
theorem a_mark (h : SInv 0 T m tx es ts as ps txs ss pd own) (hi : i < as.length) (hM : f_12098 (nI i) m = some M) : h_13018 0 (nI i) T = some M := by
  obtain ⟨M', p1, p2⟩ := h.mrk hi
  obtain ⟨j, j1, j2, j3, a1, _⟩ := h.an hi
  rw [hM] at p2
  cases p2
  have hh : h_11025 0 (nI i) T = some (.inr M) := by
    unfold h_11025
    rw [gd_e h.1.1, g39n h hi, bXn_some, gd_e a1, p1, bP_some]
  unfold h_13018
  rw [hh]
  rfl
theorem a_points (h : SInv 0 T m tx es ts as ps txs ss pd own) (hi : i < as.length) (hM : f_12097 (nI i) m = some M) : h_13017 0 (nI i) T = some M := by
  obtain ⟨j, P, p1, p2, p3, p4, p5, p6⟩ := h.pts hi
  rw [hM] at p6
  cases p6
  have hh : h_11024 0 (nI i) T = some (.inr M) := by
    unfold h_11024
    rw [gd_e h.1.1, g39n h hi, bXn_some, gd_e p4, p1, bP_some, gd_e p4, p2, bP_some, gd_e p3, p5, bP_some]
  unfold h_13017
  rw [hh]
  rfl
theorem a_markF (h : SInv 0 T m tx es ts as ps txs ss pd own) (hv : ¬ (0 ≤ v.toInt ∧ v.toInt < as.length)) : h_13018 0 v T = some (-1000001) := by
  have hh : h_11025 0 v T = some (.inl 2) := by
    unfold h_11025
    rw [gd_e h.1.1, g39 h, if_neg hv]
    rfl
  unfold h_13018
  rw [hh]
  rfl
/-- the exercise of an answer -/
theorem anE (h : SInv 0 T m tx es ts as ps txs ss pd own) (hi : i < as.length) (h47 : m 47 i = nI j) (hj : j < 4) : j < es.length ∧ ExR 0 T m (gNl es j) j (ts j) ∧ m 39 j = nI (ts j).length ∧ (ts j).length ≤ 8 := by
  have h30 := h.2.2.2.2.1.2.1
  obtain ⟨j', j1, j2, j3, a1, a2, a3, a4, _⟩ := h.an hi
  have ej : j' = j := (nI_eq (by omega) (by omega)).1 (a4.symm.trans h47)
  subst ej
  exact ⟨j1, a3, a3.2.2.2.2.2.2.2.2.2.2.2.2.1, a3.2.2.2.2.2.2.1⟩
theorem a_end (h : SInv 0 T m tx es ts as ps txs ss pd own) (hi : i < as.length) (h47 : m 47 i = nI j) (hj : j < 4) (hk : k < (ts j).length) : h_13016 0 (nI i) (nI k) T = some (m 50 (8 * i + k)) := by
  have h30 := h.2.2.2.2.1.2.1
  obtain ⟨j', j1, j2, j3, a1, a2, a3, a4, a5, a6, a7, a8, a9, _⟩ := h.an hi
  have ej : j' = j := (nI_eq (by omega) (by omega)).1 (a4.symm.trans h47)
  subst ej
  have ht := a3.2.2.2.2.2.2.1
  obtain ⟨q1, q2, q3⟩ := a9 k hk
  have ek : (nI k).toInt = k := nI_T (by omega)
  have hh : h_11023 0 (nI i) (nI k) T = some (.inr (m 50 (8 * i + k))) := by
    unfold h_11023
    rw [gd_e h.1.1, g39n h hi, bXn_some, gd_e a1, a2, bP_some, g41 a3, if_pos (by omega), bXn_some, gd_e a1, a5, bP_some, gd_e a6, xg_at (by omega), ek, Int.toNat_natCast, q1]
  unfold h_13016
  rw [hh]
  rfl
theorem a_endF (h : SInv 0 T m tx es ts as ps txs ss pd own) (hi : i < as.length) (h47 : m 47 i = nI j) (hj : j < 4) (hw : ¬ (0 ≤ w.toInt ∧ w.toInt < (ts j).length)) : h_13016 0 (nI i) w T = some (-1000001) := by
  have h30 := h.2.2.2.2.1.2.1
  obtain ⟨j', j1, j2, j3, a1, a2, a3, a4, a5, a6, a7, a8, a9, _⟩ := h.an hi
  have ej : j' = j := (nI_eq (by omega) (by omega)).1 (a4.symm.trans h47)
  subst ej
  have hh : h_11023 0 (nI i) w T = some (.inl 2) := by
    unfold h_11023
    rw [gd_e h.1.1, g39n h hi, bXn_some, gd_e a1, a2, bP_some, g41 a3, if_neg hw]
    rfl
  unfold h_13016
  rw [hh]
  rfl
theorem a_passF (h : SInv 0 T m tx es ts as ps txs ss pd own) (hi : i < as.length) (h47 : m 47 i = nI j) (hj : j < 4) (hw : ¬ (0 ≤ w.toInt ∧ w.toInt < (ts j).length)) : h_13015 0 (nI i) w T = some (-1000001) := by
  have h30 := h.2.2.2.2.1.2.1
  obtain ⟨j', j1, j2, j3, a1, a2, a3, a4, a5, a6, a7, a8, a9, _⟩ := h.an hi
  have ej : j' = j := (nI_eq (by omega) (by omega)).1 (a4.symm.trans h47)
  subst ej
  have hh : h_11022 0 (nI i) w T = some (.inl 2) := by
    unfold h_11022
    rw [gd_e h.1.1, g39n h hi, bXn_some, gd_e a1, a2, bP_some, g41 a3, if_neg hw]
    rfl
  unfold h_13015
  rw [hh]
  rfl
theorem a_answers (h : SInv 0 T m tx es ts as ps txs ss pd own) : h_11021 0 T = some (nI as.length) := by
  unfold h_11021
  rw [gd_e h.1.1, h.1.2.2.2.2.2.2.2.2.1.1, bP_some, gd_e h.1.2.2.2.2.2.2.2.2.1.2, h.2.2.2.2.1.2.2.1]
theorem a_today (h : SInv 0 T m tx es ts as ps txs ss pd own) : h_11019 0 T = some (m 0 64) := by
  unfold h_11019
  rw [gd_e h.1.1, h.2.2.1.2.2.2.2.2.2.1]
theorem a_parts (h : SInv 0 T m tx es ts as ps txs ss pd own) (hi : i < as.length) : h_13022 0 (nI i) T = some (nI ((ss i).1 5).length) := by
  obtain ⟨p1, p2, p3, p4⟩ := h.prt hi
  have hh : h_11029 0 (nI i) T = some (.inr (nI ((ss i).1 5).length)) := by
    unfold h_11029
    rw [gd_e h.1.1, g39n h hi, bXn_some, gd_e p4, p1, bP_some, gd_e p2, p3, bP_some]
  unfold h_13022
  rw [hh]
  rfl
theorem a_common (h : SInv 0 T m tx es ts as ps txs ss pd own) (hi : i < as.length) (hk : k < as.length) : h_13023 0 (nI i) (nI k) T = some (nI (gi (ss i) (ss k))) := by
  have i1 := in_as h hi
  have k1 := in_as h hk
  have hh : h_11030 0 (nI i) (nI k) T = some (.inr (nI (gi (ss i) (ss k)))) := by
    unfold h_11030
    rw [gd_e h.1.1, g38 h, if_pos i1, bXn_some, gd_e h.1.1, g38 h, if_pos k1, bXn_some, gd_e h.1.1, g46 h hi hk, bXn_some]
  unfold h_13023
  rw [hh]
  rfl
theorem a_commonF (h : SInv 0 T m tx es ts as ps txs ss pd own) (hv : ¬ ((0 ≤ v.toInt ∧ v.toInt < as.length) ∧ 0 ≤ w.toInt ∧ w.toInt < as.length)) : h_13023 0 v w T = some (-1000001) := by
  have hh : h_11030 0 v w T = some (.inl 2) := by
    unfold h_11030
    rw [gd_e h.1.1]
    exact g38b h hv
  unfold h_13023
  rw [hh]
  rfl
end ASK
