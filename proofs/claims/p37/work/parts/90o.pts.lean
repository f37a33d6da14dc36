/-! the school: who is asked for, points and marks -/
section PTS
variable {x : Nat} {T T' : Tx} {m m' : Mx} {tx : List Int32} {es es' : List Nat} {ts ts' : Nat → List Nat} {as : List Nat} {ps : Nat → Nat} {txs : Nat → List Int32} {ss : Nat → Sx} {pd : Nat} {own : Nat → Nat} {v w : Int32} {i j : Nat}
theorem vi_i {n : Nat} (h0 : 0 ≤ v.toInt) (h1 : v.toInt < n) : vi v n := ⟨h0, h1⟩
theorem g37 : h_11037 v T = some (if 0 ≤ v.toInt ∧ v.toInt < 6 then .inr () else .inl 2) := by
  unfold h_11037
  have l6 : v < 6 ↔ v.toInt < 6 := by rw [i_lt, show (6 : Int32).toInt = 6 by decide]
  by_cases c1 : v < 0
  · rw [if_pos c1, if_neg (by rw [lt_00] at c1; omega)]
  · rw [if_neg c1]
    rw [lt_00] at c1
    by_cases c2 : v < 6
    · rw [if_pos c2, if_pos ⟨by omega, l6.1 c2⟩]
    · rw [if_neg c2, if_neg (fun q => c2 (l6.2 q.2))]
theorem SInv.ans (h : SInv x T m tx es ts as ps txs ss pd own) : tW T x 10 = some (x + 69) ∧ tK T (x + 69) = 1 ∧ tA T (x + 69) = as ∧ as.length ≤ 30 ∧ m 0 74 = nI as.length ∧ tK T x = 12 :=
  ⟨h.1.2.2.2.2.2.2.2.2.1.1, h.1.2.2.2.2.2.2.2.2.1.2, h.2.2.2.2.1.2.2.1, h.2.2.2.2.1.2.1, h.2.2.2.2.1.1, h.1.1⟩
theorem SInv.exs (h : SInv x T m tx es ts as ps txs ss pd own) : tW T x 9 = some (x + 68) ∧ tK T (x + 68) = 1 ∧ tA T (x + 68) = es ∧ es.length ≤ 4 ∧ m 0 65 = nI es.length :=
  ⟨h.1.2.2.2.2.2.2.2.1.1, h.1.2.2.2.2.2.2.2.1.2, h.2.2.2.1.2.2.1, h.2.2.2.1.2.1, h.2.2.2.1.1⟩
theorem g38 (h : SInv x T m tx es ts as ps txs ss pd own) : h_11038 x v T = some (if 0 ≤ v.toInt ∧ v.toInt < as.length then .inr () else .inl 2) := by
  obtain ⟨t1, t2, t3, t4, t5, t6⟩ := h.ans
  unfold h_11038
  by_cases c1 : v < 0
  · rw [if_pos c1, if_neg (by rw [lt_00] at c1; omega)]
  · rw [if_neg c1, gd_e t6, t1, bP_some, gd_e t2, t3]
    rw [lt_00] at c1
    by_cases c2 : v < nI as.length
    · rw [if_pos c2, if_pos ⟨by omega, (lt_n (by omega)).1 c2⟩]
    · rw [if_neg c2, if_neg (fun q => c2 ((lt_n (by omega)).2 q.2))]
theorem g39 (h : SInv x T m tx es ts as ps txs ss pd own) : h_11039 x v T = some (if 0 ≤ v.toInt ∧ v.toInt < as.length then .inr (gNl as v.toInt.toNat) else .inl 2) := by
  obtain ⟨t1, t2, t3, t4, t5, t6⟩ := h.ans
  unfold h_11039
  by_cases c1 : v < 0
  · rw [if_pos c1, if_neg (by rw [lt_00] at c1; omega)]
  · rw [if_neg c1, gd_e t6, t1, bP_some, gd_e t2, t3]
    rw [lt_00] at c1
    by_cases c2 : v < nI as.length
    · have c3 := (lt_n (by omega)).1 c2
      rw [if_pos c2, if_pos ⟨by omega, c3⟩, gd_e t6, bP_some, gd_e t2, t3, gd_e ⟨by omega, c3⟩, bS_eq]
      show gd (tK T (gNl as v.toInt.toNat) = 2) _ = _
      rw [gd_e (h.2.2.2.2.1.2.2.2 v.toInt.toNat (by omega)).2.2.1]
      rfl
    · rw [if_neg c2, if_neg (fun q => c2 ((lt_n (by omega)).2 q.2))]
theorem g40 (h : SInv x T m tx es ts as ps txs ss pd own) : h_11040 x v T = some (if 0 ≤ v.toInt ∧ v.toInt < es.length then .inr (gNl es v.toInt.toNat) else .inl 2) := by
  obtain ⟨t1, t2, t3, t4, t5⟩ := h.exs
  have t6 := h.1.1
  unfold h_11040
  by_cases c1 : v < 0
  · rw [if_pos c1, if_neg (by rw [lt_00] at c1; omega)]
  · rw [if_neg c1, gd_e t6, t1, bP_some, gd_e t2, t3]
    rw [lt_00] at c1
    by_cases c2 : v < nI es.length
    · have c3 := (lt_n (by omega)).1 c2
      rw [if_pos c2, if_pos ⟨by omega, c3⟩, gd_e t6, bP_some, gd_e t2, t3, gd_e ⟨by omega, c3⟩, bS_eq]
      show gd (tK T (gNl es v.toInt.toNat) = 3) _ = _
      rw [gd_e (h.2.2.2.1.2.2.2 v.toInt.toNat (by omega)).2.2.1]
      rfl
    · rw [if_neg c2, if_neg (fun q => c2 ((lt_n (by omega)).2 q.2))]
theorem g41 {e : Nat} {tl : List Nat} (h : ExR x T m e i tl) : h_11041 e v T = some (if 0 ≤ v.toInt ∧ v.toInt < tl.length then .inr (gNl tl v.toInt.toNat) else .inl 2) := by
  obtain ⟨a1, a2, a3, a4, a5, a6, a7, a8⟩ := h
  unfold h_11041 h_2003
  rw [gd_e a3]
  by_cases c1 : v < 0
  · rw [if_pos c1, if_neg (by rw [lt_00] at c1; omega), bP_some, bN_none]
  · rw [if_neg c1, gd_e a3, a4, bP_some, gd_e a5, a6]
    rw [lt_00] at c1
    by_cases c2 : nI tl.length ≤ v
    · have : (tl.length : Int) ≤ v.toInt := by rw [i_le, nI_T (by omega)] at c2; exact c2
      rw [if_pos c2, if_neg (by omega), bP_some, bN_none]
    · have : v.toInt < tl.length := by rw [i_le, nI_T (by omega)] at c2; omega
      rw [if_neg c2, if_pos ⟨by omega, this⟩, gd_e a3, bP_some, gd_e a5, a6, gd_e ⟨by omega, this⟩, bS_eq]
      have := (a8.2.2.2.2.2.2 v.toInt.toNat (by omega)).2.1
      rw [gd_e (show tK T (tl.getD v.toNatClampNeg 0) = 9 from this), bP_some, bN_some]
      rfl
theorem g2002 {e : Nat} {tl : List Nat} (h : ExR x T m e i tl) : h_2002 e T = some (nI tl.length) := by
  obtain ⟨a1, a2, a3, a4, a5, a6, a7, a8⟩ := h
  unfold h_2002
  rw [gd_e a3, a4, bP_some, gd_e a5, a6]
theorem b_n {n : Nat} (hn : n < 1000) {u : Int32} (hu : u = nI n) : f_12002 v.toInt64 0 ((u - 1).toInt64) m = if 0 ≤ v.toInt ∧ v.toInt < n then 1 else 0 := by
  rw [in_e, s0, hu, nm1 hn, Int32.toInt_toInt64]
  by_cases c : 0 ≤ v.toInt ∧ v.toInt < n
  · rw [if_pos c, if_pos (by omega)]
  · rw [if_neg c, if_neg (by omega)]
theorem f90 (h : SInv x T m tx es ts as ps txs ss pd own) : f_12090 v m = if 0 ≤ v.toInt ∧ v.toInt < as.length then 1 else 0 := by
  obtain ⟨t1, t2, t3, t4, t5, t6⟩ := h.ans
  exact b_n (by omega) t5
theorem f82 (h : SInv x T m tx es ts as ps txs ss pd own) : f_12082 v m = if 0 ≤ v.toInt ∧ v.toInt < es.length then 1 else 0 := by
  obtain ⟨t1, t2, t3, t4, t5⟩ := h.exs
  exact b_n (by omega) t5
theorem f91 : f_12091 v m = if 0 ≤ v.toInt ∧ v.toInt < 6 then 1 else 0 := by
  unfold f_12091
  rw [in_e, s0, show (5 : Int64).toInt = 5 by decide, Int32.toInt_toInt64]
  by_cases c : 0 ≤ v.toInt ∧ v.toInt < 6
  · rw [if_pos c, if_pos (by omega)]
  · rw [if_neg c, if_neg (by omega)]
theorem n8 {a b : Nat} (h : 8 * a + b < 90000) : 8 * nI a + nI b = nI (8 * a + b) := by
  have h1 : (8 * nI a).toInt = 8 * a := by
    rw [Int32.toInt_mul, nI_T (by omega), show (8 : Int32).toInt = 8 by decide, Int.bmod_eq_of_le (by omega) (by omega)]
  rw [i_eq, Int32.toInt_add, h1, nI_T (by omega), nI_T (by omega), Int.bmod_eq_of_le (by omega) (by omega)]
  omega
/-- points -/
theorem pts_L {e r : Nat} {tl : List Nat} (hE : ExR x T m e j tl) (hr : tK T r = 7) (hp : ∀ k, k < tl.length → (tB T r).getD k 0 = m 51 (8 * i + k) ∧ (m 51 (8 * i + k) = 0 ∨ m 51 (8 * i + k) = 1)) (h47 : m 47 i = nI j) (hi : i < 30) (hj : j < 4) : ∀ (k n n' l : Nat) (a b : Int32), l + k = tl.length → k < n → k < n' → ∃ P, h_2004_L7 n e r a b (nI l) T = some P ∧ f_12097_L7 n' (nI i) a b (nI l) m = some P := by
  have ht8 : tl.length ≤ 8 := hE.2.2.2.2.2.2.1
  have e47 : mg m 47 (nI i) = nI j := by rw [mg_n (by omega)]; exact h47
  have e39 : mg m 39 (nI j) = nI tl.length := by rw [mg_n (by omega)]; exact hE.2.2.2.2.2.2.2.2.2.2.2.2.1
  intro k
  induction k with
  | zero =>
    intro n n' l a b hl hk hk'
    obtain ⟨n, rfl⟩ : ∃ q, n = q + 1 := ⟨n - 1, by omega⟩
    obtain ⟨n', rfl⟩ : ∃ q, n' = q + 1 := ⟨n' - 1, by omega⟩
    have c : nI tl.length ≤ nI l := (nI_leI (by omega) (by omega)).2 (by omega)
    have hh : h_2004_L7 (n + 1) e r a b (nI l) T = some (if a = 0 then 0 else 100 * b / a) := by
      rw [h_2004_L7, gd_e hE.2.2.1, hE.2.2.2.1, bP_some, gd_e hE.2.2.2.2.1, hE.2.2.2.2.2.1, if_pos c]
      by_cases q : a = 0
      · rw [if_pos q, if_pos q]
      · rw [if_neg q, if_neg q, gd_e q]
    refine ⟨_, hh, ?_⟩
    rw [f_12097_L7, gd_e (vi_n (by omega) (by omega)), e47, gd_e (vi_n (by omega) (by omega)), e39, if_pos c]
    by_cases q : a = 0
    · rw [if_pos q, if_pos q]
    · rw [if_neg q, if_neg q, gd_e q]
  | succ k ih =>
    intro n n' l a b hl hk hk'
    obtain ⟨n, rfl⟩ : ∃ q, n = q + 1 := ⟨n - 1, by omega⟩
    obtain ⟨n', rfl⟩ : ∃ q, n' = q + 1 := ⟨n' - 1, by omega⟩
    have c : ¬ nI tl.length ≤ nI l := fun q => by have := (nI_leI (by omega) (by omega)).1 q; omega
    obtain ⟨b1, b2, b3, b4, b5, b6, b7, b8, b9, c0, c1, c2⟩ := (hE.2.2.2.2.2.2.2.2.2.2.2.2.2 l (by omega)).2
    obtain ⟨p1, p2⟩ := hp l (by omega)
    have eg : tl.getD (nI l).toNatClampNeg 0 = gNl tl l := by rw [nI_C (by omega)]
    have ex : xg (tB T r) (nI l) = m 51 (8 * i + l) := by
      rw [xg_at (by rw [nI_T (by omega)]; omega), nI_T (by omega)]
      exact p1
    have e40 : mg m 40 (nI (8 * j + l)) = m 40 (8 * j + l) := mg_n (by omega)
    have e44 : mg m 44 (nI (8 * j + l)) = m 44 (8 * j + l) := mg_n (by omega)
    have e51 : mg m 51 (nI (8 * i + l)) = m 51 (8 * i + l) := mg_n (by omega)
    have hh : h_2004_L7 (n + 1) e r a b (nI l) T = if m 44 (8 * j + l) = 0 then (if m 51 (8 * i + l) = 0 then h_2004_L7 n e r (a + m 40 (8 * j + l)) (b + 0) (nI (l + 1)) T else h_2004_L7 n e r (a + m 40 (8 * j + l)) (b + m 40 (8 * j + l)) (nI (l + 1)) T) else h_2004_L7 n e r a b (nI (l + 1)) T := by
      rw [h_2004_L7, gd_e hE.2.2.1, hE.2.2.2.1, bP_some, gd_e hE.2.2.2.2.1, hE.2.2.2.2.2.1, if_neg c, gd_e hE.2.2.1, bP_some, gd_e hE.2.2.2.2.1, hE.2.2.2.2.2.1, gd_e (vi_n (by omega) (by omega)), bS_eq, eg, gd_e b1, gd_e b1, c1, b3, ex, nI_p1 (by omega)]
      by_cases q : m 44 (8 * j + l) = 0
      · rw [if_pos q, if_pos q, gd_e b1, gd_e hr]
        rcases p2 with w | w
        · rw [w, if_neg (by decide), if_pos rfl]
        · rw [w, if_pos rfl, if_neg (by decide), gd_e b1]
      · rw [if_neg q, if_neg q]
    have hf : f_12097_L7 (n' + 1) (nI i) a b (nI l) m = if m 44 (8 * j + l) = 0 then (if m 51 (8 * i + l) = 0 then f_12097_L7 n' (nI i) (a + m 40 (8 * j + l)) (b + 0) (nI (l + 1)) m else f_12097_L7 n' (nI i) (a + m 40 (8 * j + l)) (b + m 40 (8 * j + l)) (nI (l + 1)) m) else f_12097_L7 n' (nI i) (a + 0) (b + 0) (nI (l + 1)) m := by
      rw [f_12097_L7, gd_e (vi_n (by omega) (by omega)), e47, gd_e (vi_n (by omega) (by omega)), e39, if_neg c, gd_e (vi_n (by omega) (by omega)), n8 (by omega), gd_e (vi_n (by omega) (by omega)), e44]
      unfold f_12097_J59 f_12097_J97
      rw [n8 (by omega), e40, e44, e51, nI_p1 (by omega), gd_e (vi_n (show 8 * j + l < 32 by omega) (by omega)), gd_e (vi_n (show 8 * i + l < 240 by omega) (by omega)), gd_e (vi_n (show 8 * j + l < 32 by omega) (by omega)), gd_e (vi_n (show 8 * j + l < 32 by omega) (by omega))]
      by_cases q : m 44 (8 * j + l) = 0
      · rw [if_pos q, if_pos q, if_pos q]
      · rw [if_neg q, if_neg q, gd_e (vi_n (show 8 * j + l < 32 by omega) (by omega)), if_neg q]
    rw [hh, hf]
    by_cases q : m 44 (8 * j + l) = 0
    · rw [if_pos q, if_pos q]
      by_cases q' : m 51 (8 * i + l) = 0
      · rw [if_pos q', if_pos q']
        exact ih _ _ _ _ _ (by omega) (by omega) (by omega)
      · rw [if_neg q', if_neg q']
        exact ih _ _ _ _ _ (by omega) (by omega) (by omega)
    · rw [if_neg q, if_neg q, Int32.add_zero, Int32.add_zero]
      exact ih _ _ _ _ _ (by omega) (by omega) (by omega)
theorem pts_e {e r : Nat} {tl : List Nat} (hE : ExR x T m e j tl) (hr : tK T r = 7) (hp : ∀ k, k < tl.length → (tB T r).getD k 0 = m 51 (8 * i + k) ∧ (m 51 (8 * i + k) = 0 ∨ m 51 (8 * i + k) = 1)) (h47 : m 47 i = nI j) (hi : i < 30) (hj : j < 4) : ∃ P, h_2004 e r T = some P ∧ f_12097 (nI i) m = some P := by
  have ht8 : tl.length ≤ 8 := hE.2.2.2.2.2.2.1
  exact pts_L hE hr hp h47 hi hj tl.length 100 1000 0 0 0 (by omega) (by omega) (by omega)
theorem PasIs.b {e c a b : Int32} {O : List Int32} (h : PasIs e O c a b v) : v = 0 ∨ v = 1 := by
  unfold PasIs at h
  rw [h]
  split
  · exact Or.inr rfl
  · exact Or.inl rfl
end PTS
