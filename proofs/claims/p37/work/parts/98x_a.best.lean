/-! the law's questions: best and passed -/
section BST
variable {T T' : Tx} {m m0 m' : Mx} {tx : List Int32} {i j k : Nat} {v w : Int32} {M : Nat → Int32} {es : List Nat} {ts : Nat → List Nat} {as : List Nat} {ps : Nat → Nat} {txs : Nat → List Int32} {ss : Nat → Sx} {pd : Nat} {own : Nat → Nat}
/-- the best mark of those from l on -/
def bstF (m : Mx) (M : Nat → Int32) (v w : Int32) : Nat → Nat → Int32 → Int32
  | 0, _, b => b
  | q + 1, l, b => bstF m M v w q (l + 1) (if m 46 l = v ∧ m 47 l = w then (if b < M l then M l else b) else b)
theorem best_c (h : SInv 0 T m tx es ts as ps txs ss pd own) (hM : ∀ l, l < as.length → f_12098 (nI l) m = some (M l)) {e bc bs : Nat} : ∀ (q n l : Nat) (b : Int32), l + q = as.length → q < n → h_11027_L16 n 0 v w e b (nI l) bc bs T = some (.inr (bstF m M v w q l b)) := by
  obtain ⟨t1, t2, t3, t4, t5, t6⟩ := h.ans
  intro q
  induction q with
  | zero =>
    intro n l b hl hn
    obtain ⟨n, rfl⟩ : ∃ q, n = q + 1 := ⟨n - 1, by omega⟩
    have c : nI as.length ≤ nI l := (nI_le' (by omega) (by omega)).2 (by omega)
    rw [h_11027_L16, gd_e t6, t1, bP_some, gd_e t2, t3, if_pos c]
    rfl
  | succ q ih =>
    intro n l b hl hn
    obtain ⟨n, rfl⟩ : ∃ q, n = q + 1 := ⟨n - 1, by omega⟩
    have c : ¬ nI as.length ≤ nI l := fun w => by have := (nI_le' (by omega) (by omega)).1 w; omega
    obtain ⟨j, j1, j2, j3, a1, a2, a3, a4, a5, a6, a7, a8, a9, ⟨a0, _⟩, b1⟩ := h.an (i := l) (by omega)
    obtain ⟨M', p1, p2⟩ := h.mrk (i := l) (by omega)
    rw [hM l (by omega)] at p2
    cases p2
    have eg : as.getD (nI l).toNatClampNeg 0 = gNl as l := by rw [nI_C (by omega)]
    rw [h_11027_L16, gd_e t6, t1, bP_some, gd_e t2, t3, if_neg c, gd_e t6, bP_some, gd_e t2, t3, gd_e (vi_n (by omega) (by omega)), bS_eq, eg, gd_e a1, gd_e a1, a0, nI_p1 (by omega), bstF, a4]
    by_cases c1 : m 46 l = v
    · rw [if_pos c1, gd_e a1, a2, bP_some, gd_e a3.2.2.1, b1]
      by_cases c2 : nI j = w
      · rw [if_pos c2, if_pos ⟨c1, c2⟩, gd_e a1, p1, bP_some]
        exact ih _ _ _ (by omega) (by omega)
      · rw [if_neg c2, if_neg (fun z => c2 z.2)]
        exact ih _ _ _ (by omega) (by omega)
    · rw [if_neg c1, if_neg (fun z => c1 z.1)]
      exact ih _ _ _ (by omega) (by omega)
theorem a_best (h : SInv 0 T m tx es ts as ps txs ss pd own) (hM : ∀ l, l < as.length → f_12098 (nI l) m = some (M l)) (hv : 0 ≤ v.toInt ∧ v.toInt < 6) (hw : 0 ≤ w.toInt ∧ w.toInt < es.length) : h_13020 0 v w T = some (bstF m M v w as.length 0 (-1)) := by
  have h30 := h.2.2.2.2.1.2.1
  have hh : h_11027 0 v w T = some (.inr (bstF m M v w as.length 0 (-1))) := by
    unfold h_11027
    rw [g37, if_pos hv, bXn_some, gd_e h.1.1, g40 h, if_pos hw, bXn_some]
    exact best_c h hM as.length _ 0 (-1) (by omega) (by omega)
  unfold h_13020
  rw [hh]
  rfl
theorem a_bestF (h : SInv 0 T m tx es ts as ps txs ss pd own) : h_13020 0 6 0 T = some (-1000001) := by
  have hh : h_11027 0 6 0 T = some (.inl 2) := by
    unfold h_11027
    rw [g37, if_neg (by decide)]
    rfl
  unfold h_13020
  rw [hh]
  rfl
/-- how many of those from l on pass test k of exercise j -/
def pasF (m : Mx) (j k : Nat) : Nat → Nat → Int32 → Int32
  | 0, _, b => b
  | q + 1, l, b => pasF m j k q (l + 1) (if m 47 l = nI j then b + m 51 (8 * l + k) else b)
theorem pas_c (h : SInv 0 T m tx es ts as ps txs ss pd own) (hj : j < es.length) (hk : k < (ts j).length) {e bc bs : Nat} : ∀ (q n l : Nat) (b : Int32), l + q = as.length → q < n → h_11028_L18 n 0 (nI j) (nI k) e b (nI l) bc bs T = some (.inr (pasF m j k q l b)) := by
  obtain ⟨t1, t2, t3, t4, t5, t6⟩ := h.ans
  have he4 := h.2.2.2.1.2.1
  intro q
  induction q with
  | zero =>
    intro n l b hl hn
    obtain ⟨n, rfl⟩ : ∃ q, n = q + 1 := ⟨n - 1, by omega⟩
    have c : nI as.length ≤ nI l := (nI_le' (by omega) (by omega)).2 (by omega)
    rw [h_11028_L18, gd_e t6, t1, bP_some, gd_e t2, t3, if_pos c]
    rfl
  | succ q ih =>
    intro n l b hl hn
    obtain ⟨n, rfl⟩ : ∃ q, n = q + 1 := ⟨n - 1, by omega⟩
    have c : ¬ nI as.length ≤ nI l := fun w => by have := (nI_le' (by omega) (by omega)).1 w; omega
    obtain ⟨j', j1, j2, j3, a1, a2, a3, a4, a5, a6, a7, a8, a9, ⟨a0, _⟩, b1⟩ := h.an (i := l) (by omega)
    have eg : as.getD (nI l).toNatClampNeg 0 = gNl as l := by rw [nI_C (by omega)]
    rw [h_11028_L18, gd_e t6, t1, bP_some, gd_e t2, t3, if_neg c, gd_e t6, bP_some, gd_e t2, t3, gd_e (vi_n (by omega) (by omega)), bS_eq, eg, gd_e a1, gd_e a1, a2, bP_some, gd_e a3.2.2.1, b1, nI_p1 (by omega), pasF, a4]
    by_cases c2 : nI j' = nI j
    · have ej : j' = j := (nI_eq (by omega) (by omega)).1 c2
      subst ej
      obtain ⟨q1, q2, q3⟩ := a9 k hk
      have ek : (nI k).toInt = k := nI_T (by have := a3.2.2.2.2.2.2.1; omega)
      rw [if_pos rfl, if_pos rfl, gd_e a1, a7, bP_some, gd_e a8, xg_at (by omega), ek, Int.toNat_natCast, q2]
      exact ih _ _ _ (by omega) (by omega)
    · rw [if_neg c2, if_neg c2]
      exact ih _ _ _ (by omega) (by omega)
theorem a_passed (h : SInv 0 T m tx es ts as ps txs ss pd own) (hj : j < es.length) (hk : k < (ts j).length) : h_13021 0 (nI j) (nI k) T = some (pasF m j k as.length 0 0) := by
  have h30 := h.2.2.2.2.1.2.1
  have he4 := h.2.2.2.1.2.1
  have hE := h.2.2.2.1.2.2.2 j hj
  have ht := hE.2.2.2.2.2.2.1
  have ej : (nI j).toInt = j := nI_T (by omega)
  have ek : (nI k).toInt = k := nI_T (by omega)
  have hh : h_11028 0 (nI j) (nI k) T = some (.inr (pasF m j k as.length 0 0)) := by
    unfold h_11028
    rw [gd_e h.1.1, g40 h, if_pos (by omega), bXn_some, ej, Int.toNat_natCast, g41 hE, if_pos (by omega), bXn_some]
    exact pas_c h hj hk as.length _ 0 0 (by omega) (by omega)
  unfold h_13021
  rw [hh]
  rfl
theorem a_passedF (h : SInv 0 T m tx es ts as ps txs ss pd own) (hj : j < es.length) (hw : ¬ (0 ≤ w.toInt ∧ w.toInt < (ts j).length)) : h_13021 0 (nI j) w T = some (-1000001) := by
  have he4 := h.2.2.2.1.2.1
  have hE := h.2.2.2.1.2.2.2 j hj
  have ej : (nI j).toInt = j := nI_T (by omega)
  have hh : h_11028 0 (nI j) w T = some (.inl 2) := by
    unfold h_11028
    rw [gd_e h.1.1, g40 h, if_pos (by omega), bXn_some, ej, Int.toNat_natCast, g41 hE, if_neg hw]
    rfl
  unfold h_13021
  rw [hh]
  rfl
end BST
