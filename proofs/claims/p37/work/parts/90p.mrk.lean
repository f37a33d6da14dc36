/-! the school: marks, and the calls that only ask -/
section MRK
variable {x : Nat} {T T' : Tx} {m m' : Mx} {tx : List Int32} {es es' : List Nat} {ts ts' : Nat → List Nat} {as : List Nat} {ps : Nat → Nat} {txs : Nat → List Int32} {ss : Nat → Sx} {pd : Nat} {own : Nat → Nat} {v w : Int32} {i j : Nat}
/-- what is taken off for the days -/
theorem off_e {d : Int32} (h : bnd d (-1000) 1000) : (if 10 * (if 0 < d then d else 0) < 50 then 10 * (if 0 < d then d else 0) else 50) = if d ≤ 5 then (if d ≤ 0 then 0 else 10 * d) else 50 := by
  have e10 : (10 * d).toInt = 10 * d.toInt := by
    have := h.1
    have := h.2
    rw [Int32.toInt_mul, show (10 : Int32).toInt = 10 by decide, Int.bmod_eq_of_le (by omega) (by omega)]
  have i5 : (5 : Int32).toInt = 5 := by decide
  have i50 : (50 : Int32).toInt = 50 := by decide
  by_cases c0 : d ≤ 0
  · have n0 : ¬ 0 < d := by rw [i_lt]; rw [i_le] at c0; omega
    have c5 : d ≤ 5 := by rw [i_le] at c0 ⊢; rw [i_0] at c0; rw [i5]; omega
    rw [if_neg n0, if_pos c5, if_pos c0]
    decide
  · have n0 : 0 < d := by rw [i_lt]; rw [i_le] at c0; omega
    rw [if_pos n0, if_neg c0]
    rw [i_le, i_0] at c0
    by_cases c5 : d ≤ 5
    · rw [if_pos c5]
      rw [i_le, i5] at c5
      by_cases c : 10 * d < 50
      · rw [if_pos c]
      · rw [if_neg c]
        rw [i_lt, e10, i50] at c
        rw [i_eq, e10, i50]
        omega
    · rw [if_neg c5]
      rw [i_le, i5] at c5
      rw [if_neg (by rw [i_lt, e10, i50]; omega)]
/-- a mark, of points -/
theorem mk_e {a e : Nat} {tl : List Nat} {P : Int32} (hE : ExR x T m e j tl) (ha : tK T a = 2) (hw : tW T a 1 = some e) (h3 : tV T a 3 = m 48 i ∧ bnd (m 48 i) 0 1000) (h7 : tV T a 7 = m 49 i) (h47 : m 47 i = nI j) (hi : i < 30) (hj : j < 4) (hP : f_12097 (nI i) m = some P) : ∃ M, h_1002 a P T = some M ∧ f_12098 (nI i) m = some M := by
  have e47 : mg m 47 (nI i) = nI j := by rw [mg_n (by omega)]; exact h47
  have e48 : mg m 48 (nI i) = m 48 i := mg_n (by omega)
  have e49 : mg m 49 (nI i) = m 49 i := mg_n (by omega)
  have e38 : mg m 38 (nI j) = m 38 j := mg_n (by omega)
  obtain ⟨b1, b2, b3, b4, b5, b6, b7, b8, b9, c0, c1, c2, _⟩ := hE
  have hd : bnd (m 48 i - m 38 j) (-1000) 1000 := by
    have q1 := h3.2.1
    have q2 := h3.2.2
    have q3 := c2.1
    have q4 := c2.2
    show -1000 ≤ _ ∧ _ ≤ 1000
    rw [Int32.toInt_sub, Int.bmod_eq_of_le (by omega) (by omega)]
    omega
  have hh : h_1002 a P T = some (if m 49 i = 0 then P * (100 - (if m 48 i - m 38 j ≤ 5 then (if m 48 i - m 38 j ≤ 0 then 0 else 10 * (m 48 i - m 38 j)) else 50)) / 100 else 0) := by
    unfold h_1002
    rw [gd_e ha, h7]
    by_cases q : m 49 i = 0
    · rw [if_pos q, if_pos q, gd_e ha, gd_e ha, hw, bP_some, gd_e b3, gd_e (show ¬ (100 : Int32) = 0 by decide), h3.1, c1, off_e hd]
    · rw [if_neg q, if_neg q]
  refine ⟨_, hh, ?_⟩
  have J : ∀ k0 d : Int32, f_12098_J41 (nI i) d k0 m = some (if m 49 i = 0 then P * (100 - k0) / 100 else 0) := by
    intro k0 d
    unfold f_12098_J41
    rw [gd_e (vi_n (by omega) (by omega)), e49, hP]
    by_cases q : m 49 i = 0
    · rw [if_pos q, if_pos q, bP_some, gd_e (show ¬ (100 : Int32) = 0 by decide)]
    · rw [if_neg q, if_neg q]
  unfold f_12098
  rw [gd_e (vi_n (by omega) (by omega)), gd_e (vi_n (by omega) (by omega)), e47, gd_e (vi_n (by omega) (by omega)), e48, e38]
  by_cases c5 : m 48 i - m 38 j ≤ 5
  · rw [if_pos c5, if_pos c5]
    by_cases c0 : m 48 i - m 38 j ≤ 0
    · rw [if_pos c0, if_pos c0, J]
    · rw [if_neg c0, if_neg c0, J]
  · rw [if_neg c5, if_neg c5, J]
/-- an answer with what belongs to it -/
theorem SInv.an (h : SInv x T m tx es ts as ps txs ss pd own) (hi : i < as.length) : ∃ j, j < es.length ∧ j < 4 ∧ i < 30 ∧ tK T (gNl as i) = 2 ∧ tW T (gNl as i) 1 = some (gNl es j) ∧ ExR x T m (gNl es j) j (ts j) ∧ m 47 i = nI j ∧ tW T (gNl as i) 4 = some (gNl as i + 1) ∧ tK T (gNl as i + 1) = 7 ∧ tW T (gNl as i) 5 = some (gNl as i + 3) ∧ tK T (gNl as i + 3) = 7 ∧
    (∀ k, k < (ts j).length → (tB T (gNl as i + 1)).getD k 0 = m 50 (8 * i + k) ∧ (tB T (gNl as i + 3)).getD k 0 = m 51 (8 * i + k) ∧ (m 51 (8 * i + k) = 0 ∨ m 51 (8 * i + k) = 1)) ∧ (tV T (gNl as i) 0 = m 46 i ∧ tV T (gNl as i) 3 = m 48 i ∧ bnd (m 48 i) 0 1000 ∧ tV T (gNl as i) 7 = m 49 i) ∧ tV T (gNl es j) 0 = nI j := by
  obtain ⟨a1, a2, a3, a4, b1, a5, c1, d1, d2, d3, ⟨j, e1, e2, e3, e4, e5, e6⟩, f1⟩ := h.2.2.2.2.1.2.2.2 i hi
  have h4 := h.2.2.2.1.2.1
  have h30 := h.2.2.2.2.1.2.1
  have hE := h.2.2.2.1.2.2.2 j e1
  refine ⟨j, e1, by omega, by omega, a3, e3, hE, e2, c1.1, c1.2.1.1, c1.2.2.1, c1.2.2.2.1.1, fun k hk => ?_, ⟨a4.1, a5.1, a5.2, d1.1⟩, hE.2.2.2.2.2.2.2.1⟩
  obtain ⟨q1, q2, O, q3, q4⟩ := e6 k hk
  exact ⟨q1, q2, q4.b⟩
theorem SInv.pts (h : SInv x T m tx es ts as ps txs ss pd own) (hi : i < as.length) : ∃ j P, tW T (gNl as i) 1 = some (gNl es j) ∧ tW T (gNl as i) 5 = some (gNl as i + 3) ∧ tK T (gNl es j) = 3 ∧ tK T (gNl as i) = 2 ∧ h_2004 (gNl es j) (gNl as i + 3) T = some P ∧ f_12097 (nI i) m = some P := by
  obtain ⟨j, j1, j2, j3, a1, a2, a3, a4, a5, a6, a7, a8, a9, a0, _⟩ := h.an hi
  obtain ⟨P, p1, p2⟩ := pts_e a3 a8 (fun k hk => (a9 k hk).2) a4 j3 j2
  exact ⟨j, P, a2, a7, a3.2.2.1, a1, p1, p2⟩
theorem SInv.mrk (h : SInv x T m tx es ts as ps txs ss pd own) (hi : i < as.length) : ∃ M, h_1001 (gNl as i) T = some M ∧ f_12098 (nI i) m = some M := by
  obtain ⟨j, j1, j2, j3, a1, a2, a3, a4, a5, a6, a7, a8, a9, ⟨a0, b1, b2, b3⟩, _⟩ := h.an hi
  obtain ⟨P, p1, p2⟩ := pts_e a3 a8 (fun k hk => (a9 k hk).2) a4 j3 j2
  obtain ⟨M, q1, q2⟩ := mk_e a3 a1 a2 ⟨b1, b2⟩ b3 a4 j3 j2 p2
  refine ⟨M, ?_, q2⟩
  unfold h_1001
  rw [gd_e a1, a2, bP_some, gd_e a1, a7, bP_some, gd_e a3.2.2.1, p1, bP_some, gd_e a1, q1, bP_some]
theorem SInv.m0 (h : SInv x T m tx es ts as ps txs ss pd own) {u : Int32} : SInv x T (mp m 82 u) tx es ts as ps txs ss pd own := h.mm m82
theorem c_points (h : SInv x T m tx es ts as ps txs ss pd own) : SameR (h_11024 x v T) (f_12099 v m) cD (SINV x T) := by
  have hI : SINV x T m := ⟨_, _, _, _, _, _, _, _, _, h⟩
  have h01 : f_12090 v m = 0 ∨ f_12090 v m = 1 := in_01
  have h30 := h.2.2.2.2.1.2.1
  by_cases c : 0 ≤ v.toInt ∧ v.toInt < as.length
  · obtain ⟨j, P, p1, p2, p3, p4, p5, p6⟩ := (h.m0 (u := 0)).pts (i := v.toInt.toNat) (by omega)
    have hh : h_11024 x v T = some (.inr P) := by
      unfold h_11024
      rw [gd_e h.1.1, g39 h, if_pos c, bXn_some, gd_e p4, p1, bP_some, gd_e p4, p2, bP_some, gd_e p3, p5, bP_some]
    have hf : f_12099 v m = some (mp m 82 0, P) := by
      unfold f_12099
      rw [goes1 h01, f90 h, if_pos c, if_pos rfl, bT_eq, if_neg (by decide), of_nI (v := v) c.1 (by omega), p6, bP_some]
    exact ⟨_, _, _, hh, hf, hI.mm m82, Or.inl ⟨_, rfl, mp_s, rfl⟩⟩
  · have hh : h_11024 x v T = some (.inl 2) := by
      unfold h_11024
      rw [gd_e h.1.1, g39 h, if_neg c]
      rfl
    have hf : f_12099 v m = some (mp m 82 1, 0) := by
      unfold f_12099
      rw [goes1 h01, f90 h, if_neg c, if_neg (by decide), bT_eq, if_pos rfl]
    exact ⟨_, _, _, hh, hf, hI.mm m82, Or.inr ⟨2, rfl, by decide, mp_s⟩⟩
theorem c_mark (h : SInv x T m tx es ts as ps txs ss pd own) : SameR (h_11025 x v T) (f_12100 v m) cD (SINV x T) := by
  have hI : SINV x T m := ⟨_, _, _, _, _, _, _, _, _, h⟩
  have h01 : f_12090 v m = 0 ∨ f_12090 v m = 1 := in_01
  have h30 := h.2.2.2.2.1.2.1
  by_cases c : 0 ≤ v.toInt ∧ v.toInt < as.length
  · obtain ⟨M, p1, p2⟩ := (h.m0 (u := 0)).mrk (i := v.toInt.toNat) (by omega)
    obtain ⟨j, j1, j2, j3, a1, _⟩ := h.an (i := v.toInt.toNat) (by omega)
    have hh : h_11025 x v T = some (.inr M) := by
      unfold h_11025
      rw [gd_e h.1.1, g39 h, if_pos c, bXn_some, gd_e a1, p1, bP_some]
    have hf : f_12100 v m = some (mp m 82 0, M) := by
      unfold f_12100
      rw [goes1 h01, f90 h, if_pos c, if_pos rfl, bT_eq, if_neg (by decide), of_nI (v := v) c.1 (by omega), p2, bP_some]
    exact ⟨_, _, _, hh, hf, hI.mm m82, Or.inl ⟨_, rfl, mp_s, rfl⟩⟩
  · have hh : h_11025 x v T = some (.inl 2) := by
      unfold h_11025
      rw [gd_e h.1.1, g39 h, if_neg c]
      rfl
    have hf : f_12100 v m = some (mp m 82 1, 0) := by
      unfold f_12100
      rw [goes1 h01, f90 h, if_neg c, if_neg (by decide), bT_eq, if_pos rfl]
    exact ⟨_, _, _, hh, hf, hI.mm m82, Or.inr ⟨2, rfl, by decide, mp_s⟩⟩
theorem f94 (h : SInv x T m tx es ts as ps txs ss pd own) (hi : i < as.length) {j : Nat} (h47 : m 47 i = nI j) (hE : ExR x T m (gNl es j) j (ts j)) (hj : j < 4) : f_12094 (nI i) w m = some (if 0 ≤ w.toInt ∧ w.toInt < (ts j).length then 1 else 0) := by
  have h30 := h.2.2.2.2.1.2.1
  have e47 : mg m 47 (nI i) = nI j := by rw [mg_n (by omega)]; exact h47
  have e39 : mg m 39 (nI j) = nI (ts j).length := by rw [mg_n (by omega)]; exact hE.2.2.2.2.2.2.2.2.2.2.2.2.1
  have ht := hE.2.2.2.2.2.2.1
  have e90 : f_12090 (nI i) m = 1 := by
    rw [f90 h]
    exact if_pos ⟨by rw [nI_T (by omega)]; omega, by rw [nI_T (by omega)]; omega⟩
  unfold f_12094
  rw [e90, if_neg (by decide), gd_e (vi_n (by omega) (by omega)), e47, gd_e (vi_n (by omega) (by omega)), b_n (n := (ts j).length) (by omega) e39]
  by_cases c : 0 ≤ w.toInt ∧ w.toInt < (ts j).length
  · rw [if_pos c]
    rfl
  · rw [if_neg c]
    rfl
theorem c_passes (h : SInv x T m tx es ts as ps txs ss pd own) : SameR (h_11022 x v w T) (f_12095 v w m) cD (SINV x T) := by
  have hI : SINV x T m := ⟨_, _, _, _, _, _, _, _, _, h⟩
  have h30 := h.2.2.2.2.1.2.1
  by_cases c : 0 ≤ v.toInt ∧ v.toInt < as.length
  · obtain ⟨j, j1, j2, j3, a1, a2, a3, a4, a5, a6, a7, a8, a9, _⟩ := h.an (i := v.toInt.toNat) (by omega)
    have ev := of_nI (v := v) c.1 (by omega)
    have r94 : f_12094 v w m = some (if 0 ≤ w.toInt ∧ w.toInt < (ts j).length then 1 else 0) := by
      have := f94 (w := w) h (i := v.toInt.toNat) (by omega) a4 a3 j2
      rw [← ev] at this
      exact this
    have ht := a3.2.2.2.2.2.2.1
    by_cases c2 : 0 ≤ w.toInt ∧ w.toInt < (ts j).length
    · obtain ⟨q1, q2, q3⟩ := a9 w.toInt.toNat (by omega)
      have ew := of_nI (v := w) c2.1 (by omega)
      have hh : h_11022 x v w T = some (.inr (m 51 (8 * v.toInt.toNat + w.toInt.toNat))) := by
        unfold h_11022
        rw [gd_e h.1.1, g39 h, if_pos c, bXn_some, gd_e a1, a2, bP_some, g41 a3, if_pos c2, bXn_some, gd_e a1, a7, bP_some, gd_e a8, xg_at c2.1, q2]
        rcases q3 with q | q
        · rw [q, if_neg (by decide)]
        · rw [q, if_pos rfl]
      have em : mg (mp m 82 0) 51 (8 * v + w) = m 51 (8 * v.toInt.toNat + w.toInt.toNat) := by
        rw [ev, ew, nI_T (by omega), nI_T (by omega), n8 (by omega), mg_n (by omega), mp_j (by decide)]
        rfl
      have evi : vi (8 * v + w) 240 := by
        rw [ev, ew, n8 (by omega)]
        exact vi_n (by omega) (by omega)
      have hf : f_12095 v w m = some (mp m 82 0, m 51 (8 * v.toInt.toNat + w.toInt.toNat)) := by
        unfold f_12095
        rw [r94, if_pos c2, bP_some, goes1 i_01, if_pos rfl, bT_eq, if_neg (by decide), gd_e evi, em]
        rcases q3 with q | q
        · rw [q, if_pos rfl]
        · rw [q, if_neg (by decide)]
      exact ⟨_, _, _, hh, hf, hI.mm m82, Or.inl ⟨_, rfl, mp_s, rfl⟩⟩
    · have hh : h_11022 x v w T = some (.inl 2) := by
        unfold h_11022
        rw [gd_e h.1.1, g39 h, if_pos c, bXn_some, gd_e a1, a2, bP_some, g41 a3, if_neg c2]
        rfl
      have hf : f_12095 v w m = some (mp m 82 1, 0) := by
        unfold f_12095
        rw [r94, if_neg c2, bP_some, goes1 (Or.inl rfl), if_neg (by decide), bT_eq, if_pos rfl]
      exact ⟨_, _, _, hh, hf, hI.mm m82, Or.inr ⟨2, rfl, by decide, mp_s⟩⟩
  · have hh : h_11022 x v w T = some (.inl 2) := by
      unfold h_11022
      rw [gd_e h.1.1, g39 h, if_neg c]
      rfl
    have r94 : f_12094 v w m = some 0 := by
      unfold f_12094
      rw [f90 h, if_neg c, if_pos rfl]
    have hf : f_12095 v w m = some (mp m 82 1, 0) := by
      unfold f_12095
      rw [r94, bP_some, goes1 (Or.inl rfl), if_neg (by decide), bT_eq, if_pos rfl]
    exact ⟨_, _, _, hh, hf, hI.mm m82, Or.inr ⟨2, rfl, by decide, mp_s⟩⟩
theorem c_endOf (h : SInv x T m tx es ts as ps txs ss pd own) : SameR (h_11023 x v w T) (f_12096 v w m) cD (SINV x T) := by
  have hI : SINV x T m := ⟨_, _, _, _, _, _, _, _, _, h⟩
  have h30 := h.2.2.2.2.1.2.1
  by_cases c : 0 ≤ v.toInt ∧ v.toInt < as.length
  · obtain ⟨j, j1, j2, j3, a1, a2, a3, a4, a5, a6, a7, a8, a9, _⟩ := h.an (i := v.toInt.toNat) (by omega)
    have ev := of_nI (v := v) c.1 (by omega)
    have r94 : f_12094 v w m = some (if 0 ≤ w.toInt ∧ w.toInt < (ts j).length then 1 else 0) := by
      have := f94 (w := w) h (i := v.toInt.toNat) (by omega) a4 a3 j2
      rw [← ev] at this
      exact this
    have ht := a3.2.2.2.2.2.2.1
    by_cases c2 : 0 ≤ w.toInt ∧ w.toInt < (ts j).length
    · obtain ⟨q1, q2, q3⟩ := a9 w.toInt.toNat (by omega)
      have ew := of_nI (v := w) c2.1 (by omega)
      have hh : h_11023 x v w T = some (.inr (m 50 (8 * v.toInt.toNat + w.toInt.toNat))) := by
        unfold h_11023
        rw [gd_e h.1.1, g39 h, if_pos c, bXn_some, gd_e a1, a2, bP_some, g41 a3, if_pos c2, bXn_some, gd_e a1, a5, bP_some, gd_e a6, xg_at c2.1, q1]
      have em : mg (mp m 82 0) 50 (8 * v + w) = m 50 (8 * v.toInt.toNat + w.toInt.toNat) := by
        rw [ev, ew, nI_T (by omega), nI_T (by omega), n8 (by omega), mg_n (by omega), mp_j (by decide)]
        rfl
      have evi : vi (8 * v + w) 240 := by
        rw [ev, ew, n8 (by omega)]
        exact vi_n (by omega) (by omega)
      have hf : f_12096 v w m = some (mp m 82 0, m 50 (8 * v.toInt.toNat + w.toInt.toNat)) := by
        unfold f_12096
        rw [r94, if_pos c2, bP_some, goes1 i_01, if_pos rfl, bT_eq, if_neg (by decide), gd_e evi, em]
      exact ⟨_, _, _, hh, hf, hI.mm m82, Or.inl ⟨_, rfl, mp_s, rfl⟩⟩
    · have hh : h_11023 x v w T = some (.inl 2) := by
        unfold h_11023
        rw [gd_e h.1.1, g39 h, if_pos c, bXn_some, gd_e a1, a2, bP_some, g41 a3, if_neg c2]
        rfl
      have hf : f_12096 v w m = some (mp m 82 1, 0) := by
        unfold f_12096
        rw [r94, if_neg c2, bP_some, goes1 (Or.inl rfl), if_neg (by decide), bT_eq, if_pos rfl]
      exact ⟨_, _, _, hh, hf, hI.mm m82, Or.inr ⟨2, rfl, by decide, mp_s⟩⟩
  · have hh : h_11023 x v w T = some (.inl 2) := by
      unfold h_11023
      rw [gd_e h.1.1, g39 h, if_neg c]
      rfl
    have r94 : f_12094 v w m = some 0 := by
      unfold f_12094
      rw [f90 h, if_neg c, if_pos rfl]
    have hf : f_12096 v w m = some (mp m 82 1, 0) := by
      unfold f_12096
      rw [r94, bP_some, goes1 (Or.inl rfl), if_neg (by decide), bT_eq, if_pos rfl]
    exact ⟨_, _, _, hh, hf, hI.mm m82, Or.inr ⟨2, rfl, by decide, mp_s⟩⟩
end MRK
